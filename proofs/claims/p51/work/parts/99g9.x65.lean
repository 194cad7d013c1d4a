set_option maxRecDepth 20000
theorem rx_194 {b : Bool} {A : Nat → Nat} {h0 : g_H} {d : Nat} {M : xa_M} {post : Option xa_V → xa_M → Prop} (hn : 0 ≤ M 1 9 ∧ M 1 9 ≤ 14) (hl : 0 ≤ M 43 4 ∧ M 43 4 ≤ 12) (k : ∀ (r : Int) (M1 : xa_M), r = br_b (br_no (M 44) (M 45) (M 46) (M 47) (M 5) (M 6) (M 4) (M 1 9)) (M 43 4).toNat → (∀ q j, ¬ q = 48 → ¬ q = 49 → M1 q j = M q j) → M1 48 1 = 1 → post (some (0, 0, (-2147483648), 2147483647, r)) M1) : xa_C (xl_I b) A h0 (d + 6) 194 [(2, 0, 0, 0, 0)] M post := by
  refine xa_C_arg [(2, 0, 0, 0, 0)] (xa_svR (xa_sv0)) ?_
  refine xa_meth (Q0 := (2, 1, false, 0, 0, 11)) (by decide +kernel) ⟨rfl, rfl⟩ (full := s_c_194) rfl rfl ?_
  intro hM hv Q hgo
  refine hgo.1 27 [] 0 _ _ _ ?_
  show xa_C (xl_I b) A h0 _ 195 [(2, 43, 0, 0, 0), (2, 1, 0, 0, 0)] M _
  refine cx_195f hn hl ?_
  show xa_C (xl_I b) A h0 _ 59 [(2, 48, 0, 0, 0)] M _
  refine cx_59_48 ?_
  refine And.intro ?_ ?_
  · intro (c1 : ¬ (br_b (br_no (M 44) (M 45) (M 46) (M 47) (M 5) (M 6) (M 4) (M 1 9)) (M 43 4).toNat) = 0)
    show xa_C (xl_I b) A h0 _ 60 [(2, 48, 0, 0, 0), (1, 0, (-1), (-1), (-1))] (xa_up M 48 1 0) _
    refine cx_60_48 (show (0 : Int) ≤ 0 by omega) ?_ ?_
    · intro (i2 : 16 ≤ 0)
      show post (some (0, 0, (-2147483648), 2147483647, br_b (br_no (M 44) (M 45) (M 46) (M 47) (M 5) (M 6) (M 4) (M 1 9)) (M 43 4).toNat)) (xa_up M 48 1 0)
      exact k _ _ rfl (fun q j h1 h2 => by simp [xa_up, h1, h2]) (by exfalso; omega)
    · intro (i3 : 0 < 16)
      show post (some (0, 0, (-2147483648), 2147483647, br_b (br_no (M 44) (M 45) (M 46) (M 47) (M 5) (M 6) (M 4) (M 1 9)) (M 43 4).toNat)) (xa_up (xa_up (xa_up M 48 1 0) 49 0 (-1)) 48 1 (xa_w32 (0 + 1)))
      exact k _ _ rfl (fun q j h1 h2 => by simp [xa_up, h1, h2]) (by show xa_w32 (0 + 1) = 1; decide)
  · intro (c1 : (br_b (br_no (M 44) (M 45) (M 46) (M 47) (M 5) (M 6) (M 4) (M 1 9)) (M 43 4).toNat) = 0)
    show xa_C (xl_I b) A h0 _ 198 [(2, 43, 0, 0, 0), (2, 1, 0, 0, 0)] (xa_up M 48 1 0) _
    refine cx_198a (show 0 ≤ (M 1 9) ∧ (M 1 9) ≤ 14 by omega) (show 0 ≤ (M 43 4) ∧ (M 43 4) ≤ 12 by omega) ?_
    intro r122 (i4 : 0 ≤ r122 ∧ r122 ≤ 12)
    show xa_C (xl_I b) A h0 _ 60 [(2, 48, 0, 0, 0), (1, 0, 0, 12, r122)] (xa_up M 48 1 0) _
    refine cx_60_48 (show (0 : Int) ≤ 0 by omega) ?_ ?_
    · intro (i5 : 16 ≤ 0)
      show post (some (0, 0, (-2147483648), 2147483647, br_b (br_no (M 44) (M 45) (M 46) (M 47) (M 5) (M 6) (M 4) (M 1 9)) (M 43 4).toNat)) (xa_up M 48 1 0)
      exact k _ _ rfl (fun q j h1 h2 => by simp [xa_up, h1, h2]) (by exfalso; omega)
    · intro (i6 : 0 < 16)
      show post (some (0, 0, (-2147483648), 2147483647, br_b (br_no (M 44) (M 45) (M 46) (M 47) (M 5) (M 6) (M 4) (M 1 9)) (M 43 4).toNat)) (xa_up (xa_up (xa_up M 48 1 0) 49 0 r122) 48 1 (xa_w32 (0 + 1)))
      exact k _ _ rfl (fun q j h1 h2 => by simp [xa_up, h1, h2]) (by show xa_w32 (0 + 1) = 1; decide)
theorem rm_breaks {A : Nat → Nat} {h0 : g_H} {d : Nat} {M : xa_M} {post : Option xa_V → xa_M → Prop} (hI : xm_Inv M) (k : ∀ (lo hi r : Int) (M1 : xa_M), r = br_b (br_no (M 100) (M 101) (M 102) (M 103) (M 64) (M 65) (M 63) (M 60 0)) (M 60 61).toNat → xm_cor M M1 → M1 60 20 = 1 → post (some (0, 0, lo, hi, r)) M1) : xa_C xm_I A h0 (d + 3) 291 [(2, 60, 0, 0, 0)] M post := by
  refine xa_meth (Q0 := (8, 1, false, 0, 0, 12)) (by decide +kernel) ⟨rfl, rfl⟩ (full := s_c_291) rfl rfl ?_
  intro hM hv Q hgo
  have b0 := xm_f0 hM
  have b6 := xm_f6 hM
  have b61 := xm_f61 hM
  have b11 := xm_f11 hM
  have b15 := xm_f15 hM
  have b16 := xm_f16 hM
  have hlh := hI.2.2.2.1
  have loop2 : ∀ (n : Nat) (x3 x2 x1 : Int) (M1 : xa_M), 0 ≤ x3 ∧ x3 ≤ 2147483647 → xm_cor M M1 → x1 = br_b (br_no (M 100) (M 101) (M 102) (M 103) (M 64) (M 65) (M 63) (M 60 0)) (M 60 61).toNat → ((xa_ib 6 1 (M 60 0) - x3).toNat : Int) < (n : Int) → Q 100 [(3, (0, 0, 0, 2147483647, x3)), (2, (0, 0, (-2147483648), 2147483647, x2)), (1, (0, 0, (-2147483648), 2147483647, x1)), (0, (2, 60, 0, 0, 0))] [] M1 := by
    intro n
    induction n with
    | zero => intro x3 x2 x1 M1 b3 hc hx1 hms; omega
    | succ n ih2 =>
      intro x3 x2 x1 M1 b3 hc hx1 hms2
      have e0 := xm_corf hc 0 (by omega)
      have e6 := xm_corf hc 6 (by omega)
      have e61 := xm_corf hc 61 (by omega)
      have e11 := xm_corf hc 11 (by omega)
      have e15 := xm_corf hc 15 (by omega)
      have e16 := xm_corf hc 16 (by omega)
      have rT := xa_ib_rg 6 1 (M 60 0)
      have eT : xa_ib 6 1 (M1 60 0) = xa_ib 6 1 (M 60 0) := by rw [e0]
      have w3 : x3 < xa_ib 6 1 (M 60 0) → xa_w32 (x3 + 1) = x3 + 1 := fun h => xa_w32_id (by omega) (by omega)
      have loop3 : ∀ (n : Nat) (x5 x4 : Int) (M1 : xa_M), 0 ≤ x5 ∧ x5 ≤ 12 → 0 ≤ x4 ∧ x4 ≤ 1 → 0 ≤ x3 ∧ x3 ≤ 2147483646 → xm_cor M M1 → x3 < xa_ib 6 1 (M 60 0) → 12 - x5 < (n : Int) → Q 136 [(5, (0, 0, 0, 12, x5)), (4, (0, 0, 0, 1, x4)), (3, (0, 0, 0, 2147483646, x3)), (2, (0, 0, (-2147483648), 2147483647, x2)), (1, (0, 0, (-2147483648), 2147483647, x1)), (0, (2, 60, 0, 0, 0))] [] M1 := by
        intro n
        induction n with
        | zero => intro x5 x4 M1 b5 b4 f3 hc h3T hms; omega
        | succ n ih3 =>
          intro x5 x4 M1 b5 b4 f3 hc h3T hms3
          have e0 := xm_corf hc 0 (by omega)
          have e6 := xm_corf hc 6 (by omega)
          have e61 := xm_corf hc 61 (by omega)
          have e11 := xm_corf hc 11 (by omega)
          have e15 := xm_corf hc 15 (by omega)
          have e16 := xm_corf hc 16 (by omega)
          have rT := xa_ib_rg 6 1 (M 60 0)
          have loop4 : ∀ (n : Nat) (x7 x6 : Int) (M1 : xa_M), 0 ≤ x7 ∧ x7 ≤ 14 → 0 ≤ x6 ∧ x6 ≤ 1 → 0 ≤ x5 ∧ x5 ≤ 11 → 0 ≤ x4 ∧ x4 ≤ 1 → 0 ≤ x3 ∧ x3 ≤ 2147483646 → xm_cor M M1 → x3 < xa_ib 6 1 (M 60 0) → 14 - x7 < (n : Int) → Q 156 [(7, (0, 0, 0, 14, x7)), (6, (0, 0, 0, 1, x6)), (5, (0, 0, 0, 11, x5)), (4, (0, 0, 0, 1, x4)), (3, (0, 0, 0, 2147483646, x3)), (2, (0, 0, (-2147483648), 2147483647, x2)), (1, (0, 0, (-2147483648), 2147483647, x1)), (0, (2, 60, 0, 0, 0))] [] M1 := by
            intro n
            induction n with
            | zero => intro x7 x6 M1 b7 b6 f5 f4 f3 hc h3T hms; omega
            | succ n ih4 =>
              intro x7 x6 M1 b7 b6 f5 f4 f3 hc h3T hms4
              have e0 := xm_corf hc 0 (by omega)
              have e6 := xm_corf hc 6 (by omega)
              have e61 := xm_corf hc 61 (by omega)
              have e11 := xm_corf hc 11 (by omega)
              have e15 := xm_corf hc 15 (by omega)
              have e16 := xm_corf hc 16 (by omega)
              have rT := xa_ib_rg 6 1 (M 60 0)
              refine hgo.1 36 [9, 22, 100, 136, 156] 156 _ _ _ ?_
              refine And.intro ?_ ?_
              · intro (c1 : (M1 60 0) ≤ x7)
                show Q 136 [(5, (0, 0, 1, 12, x5 + 1)), (4, (0, 0, 0, 1, x6)), (7, (0, 0, 0, 14, x7)), (6, (0, 0, 0, 1, x6)), (3, (0, 0, 0, 2147483646, x3)), (2, (0, 0, (-2147483648), 2147483647, x2)), (1, (0, 0, (-2147483648), 2147483647, x1)), (0, (2, 60, 0, 0, 0))] [] M1
                refine hgo.2.1 136 _ [(5, (0, 0, 0, 12, x5 + 1)), (4, (0, 0, 0, 1, x6)), (3, (0, 0, 0, 2147483646, x3)), (2, (0, 0, (-2147483648), 2147483647, x2)), (1, (0, 0, (-2147483648), 2147483647, x1)), (0, (2, 60, 0, 0, 0))] _ _ (xa_subI rfl rfl (fun _ _ _ _ => by omega) (xa_subI rfl rfl (fun _ _ _ _ => by omega) (xa_subI rfl rfl (fun _ _ _ _ => by omega) (xa_subI rfl rfl (fun _ _ _ _ => by omega) (xa_subI rfl rfl (fun _ _ _ _ => by omega) (xa_subR rfl xa_sub0)))))) ?_
                exact ih3 (x5 + 1) x6 M1 (by omega) (by omega) (by omega) hc (by omega) (by omega)
              · intro (c1 : x7 < (M1 60 0))
                refine And.intro ?_ ?_
                · intro (c2 : ¬ x6 = 0)
                  show Q 156 [(7, (0, 0, 1, 15, x7 + 1)), (6, (0, 0, 1, 1, 1)), (5, (0, 0, 0, 11, x5)), (4, (0, 0, 0, 1, x4)), (3, (0, 0, 0, 2147483646, x3)), (2, (0, 0, (-2147483648), 2147483647, x2)), (1, (0, 0, (-2147483648), 2147483647, x1)), (0, (2, 60, 0, 0, 0))] [] M1
                  refine hgo.2.1 156 _ [(7, (0, 0, 0, 14, x7 + 1)), (6, (0, 0, 0, 1, 1)), (5, (0, 0, 0, 11, x5)), (4, (0, 0, 0, 1, x4)), (3, (0, 0, 0, 2147483646, x3)), (2, (0, 0, (-2147483648), 2147483647, x2)), (1, (0, 0, (-2147483648), 2147483647, x1)), (0, (2, 60, 0, 0, 0))] _ _ (xa_subI rfl rfl (fun _ _ _ _ => by omega) (xa_subI rfl rfl (fun _ _ _ _ => by omega) (xa_subI rfl rfl (fun _ _ _ _ => by omega) (xa_subI rfl rfl (fun _ _ _ _ => by omega) (xa_subI rfl rfl (fun _ _ _ _ => by omega) (xa_subI rfl rfl (fun _ _ _ _ => by omega) (xa_subI rfl rfl (fun _ _ _ _ => by omega) (xa_subR rfl xa_sub0)))))))) ?_
                  exact ih4 (x7 + 1) 1 M1 (by omega) (by omega) (by omega) (by omega) (by omega) hc (by omega) (by omega)
                · intro (c2 : x6 = 0)
                  show xa_C xm_I A h0 _ 248 [(0, 0, 0, 2147483646, x3), (0, 0, 0, 14, x7)] M1 _
                  refine ct_has (fun r3 zr3 er3 => ?_)
                  refine And.intro ?_ ?_
                  · intro (c4 : r3 = 0)
                    show Q 156 [(7, (0, 0, 1, 15, x7 + 1)), (6, (0, 0, 0, 0, 0)), (5, (0, 0, 0, 11, x5)), (4, (0, 0, 0, 1, x4)), (3, (0, 0, 0, 2147483646, x3)), (2, (0, 0, (-2147483648), 2147483647, x2)), (1, (0, 0, (-2147483648), 2147483647, x1)), (0, (2, 60, 0, 0, 0))] [] M1
                    refine hgo.2.1 156 _ [(7, (0, 0, 0, 14, x7 + 1)), (6, (0, 0, 0, 1, 0)), (5, (0, 0, 0, 11, x5)), (4, (0, 0, 0, 1, x4)), (3, (0, 0, 0, 2147483646, x3)), (2, (0, 0, (-2147483648), 2147483647, x2)), (1, (0, 0, (-2147483648), 2147483647, x1)), (0, (2, 60, 0, 0, 0))] _ _ (xa_subI rfl rfl (fun _ _ _ _ => by omega) (xa_subI rfl rfl (fun _ _ _ _ => by omega) (xa_subI rfl rfl (fun _ _ _ _ => by omega) (xa_subI rfl rfl (fun _ _ _ _ => by omega) (xa_subI rfl rfl (fun _ _ _ _ => by omega) (xa_subI rfl rfl (fun _ _ _ _ => by omega) (xa_subI rfl rfl (fun _ _ _ _ => by omega) (xa_subR rfl xa_sub0)))))))) ?_
                    exact ih4 (x7 + 1) 0 M1 (by omega) (by omega) (by omega) (by omega) (by omega) hc (by omega) (by omega)
                  · intro (c4 : ¬ r3 = 0)
                    refine And.intro (show 0 ≤ x7 ∧ x7 < 14 by omega) ?_
                    refine And.intro (show 0 ≤ x7 ∧ x7 < 14 by omega) ?_
                    refine And.intro (show 0 ≤ x7 ∧ x7 < 14 by omega) ?_
                    show xa_C xm_I A h0 _ 292 [(2, 60, 0, 0, 0), (0, 0, 0, 11, x5), (0, 0, 0, 9, M1 64 x7), (0, 0, 0, 9, M1 65 x7), (0, 0, 0, 400, M1 63 x7)] M1 _
                    refine ct_isLeft (by omega) (by omega) (fun r5 zr5 er5 => ?_)
                    refine And.intro ?_ ?_
                    · intro (c6 : r5 = 0)
                      show Q 156 [(7, (0, 0, 1, 15, x7 + 1)), (6, (0, 0, 0, 0, 0)), (5, (0, 0, 0, 11, x5)), (4, (0, 0, 0, 1, x4)), (3, (0, 0, 0, 2147483646, x3)), (2, (0, 0, (-2147483648), 2147483647, x2)), (1, (0, 0, (-2147483648), 2147483647, x1)), (0, (2, 60, 0, 0, 0))] [] M1
                      refine hgo.2.1 156 _ [(7, (0, 0, 0, 14, x7 + 1)), (6, (0, 0, 0, 1, 0)), (5, (0, 0, 0, 11, x5)), (4, (0, 0, 0, 1, x4)), (3, (0, 0, 0, 2147483646, x3)), (2, (0, 0, (-2147483648), 2147483647, x2)), (1, (0, 0, (-2147483648), 2147483647, x1)), (0, (2, 60, 0, 0, 0))] _ _ (xa_subI rfl rfl (fun _ _ _ _ => by omega) (xa_subI rfl rfl (fun _ _ _ _ => by omega) (xa_subI rfl rfl (fun _ _ _ _ => by omega) (xa_subI rfl rfl (fun _ _ _ _ => by omega) (xa_subI rfl rfl (fun _ _ _ _ => by omega) (xa_subI rfl rfl (fun _ _ _ _ => by omega) (xa_subI rfl rfl (fun _ _ _ _ => by omega) (xa_subR rfl xa_sub0)))))))) ?_
                      exact ih4 (x7 + 1) 0 M1 (by omega) (by omega) (by omega) (by omega) (by omega) hc (by omega) (by omega)
                    · intro (c6 : ¬ r5 = 0)
                      show Q 156 [(7, (0, 0, 1, 15, x7 + 1)), (6, (0, 0, 1, 1, 1)), (5, (0, 0, 0, 11, x5)), (4, (0, 0, 0, 1, x4)), (3, (0, 0, 0, 2147483646, x3)), (2, (0, 0, (-2147483648), 2147483647, x2)), (1, (0, 0, (-2147483648), 2147483647, x1)), (0, (2, 60, 0, 0, 0))] [] M1
                      refine hgo.2.1 156 _ [(7, (0, 0, 0, 14, x7 + 1)), (6, (0, 0, 0, 1, 1)), (5, (0, 0, 0, 11, x5)), (4, (0, 0, 0, 1, x4)), (3, (0, 0, 0, 2147483646, x3)), (2, (0, 0, (-2147483648), 2147483647, x2)), (1, (0, 0, (-2147483648), 2147483647, x1)), (0, (2, 60, 0, 0, 0))] _ _ (xa_subI rfl rfl (fun _ _ _ _ => by omega) (xa_subI rfl rfl (fun _ _ _ _ => by omega) (xa_subI rfl rfl (fun _ _ _ _ => by omega) (xa_subI rfl rfl (fun _ _ _ _ => by omega) (xa_subI rfl rfl (fun _ _ _ _ => by omega) (xa_subI rfl rfl (fun _ _ _ _ => by omega) (xa_subI rfl rfl (fun _ _ _ _ => by omega) (xa_subR rfl xa_sub0)))))))) ?_
                      exact ih4 (x7 + 1) 1 M1 (by omega) (by omega) (by omega) (by omega) (by omega) hc (by omega) (by omega)
          refine hgo.1 18 [9, 22, 100, 136, 156] 136 _ _ _ ?_
          refine And.intro ?_ ?_
          · intro (c1 : (M1 60 61) ≤ x5)
            refine And.intro ?_ ?_
            · intro (c2 : x4 = 0)
              show Q 100 [(3, (0, 0, 1, 2147483647, x3 + 1)), (5, (0, 0, 0, 12, x5)), (4, (0, 0, 0, 1, x4)), (2, (0, 0, (-2147483648), 2147483647, x2)), (1, (0, 0, (-2147483648), 2147483647, x1)), (0, (2, 60, 0, 0, 0))] [] M1
              refine hgo.2.1 100 _ [(3, (0, 0, 0, 2147483647, x3 + 1)), (2, (0, 0, (-2147483648), 2147483647, x2)), (1, (0, 0, (-2147483648), 2147483647, x1)), (0, (2, 60, 0, 0, 0))] _ _ (xa_subI rfl rfl (fun _ _ _ _ => by omega) (xa_subI rfl rfl (fun _ _ _ _ => by omega) (xa_subI rfl rfl (fun _ _ _ _ => by omega) (xa_subR rfl xa_sub0)))) ?_
              exact ih2 (x3 + 1) x2 x1 M1 (by omega) hc hx1 (by omega)
            · intro (c2 : ¬ x4 = 0)
              show xa_C xm_I A h0 _ 136 [(0, 0, 0, 2147483646, x3)] M1 _
              refine ct_bitCount ?_
              show Q 100 [(3, (0, 0, 1, 2147483647, x3 + 1)), (2, (0, 0, (-2147483648), 2147483647, xa_bc x3)), (5, (0, 0, 0, 12, x5)), (4, (0, 0, 0, 1, x4)), (1, (0, 0, (-2147483648), 2147483647, x1)), (0, (2, 60, 0, 0, 0))] [] M1
              refine hgo.2.1 100 _ [(3, (0, 0, 0, 2147483647, x3 + 1)), (2, (0, 0, (-2147483648), 2147483647, xa_bc x3)), (1, (0, 0, (-2147483648), 2147483647, x1)), (0, (2, 60, 0, 0, 0))] _ _ (xa_subI rfl rfl (fun _ _ _ _ => by omega) (xa_subI rfl rfl (fun _ _ _ _ => by omega) (xa_subI rfl rfl (fun _ _ _ _ => by omega) (xa_subR rfl xa_sub0)))) ?_
              exact ih2 (x3 + 1) (xa_bc x3) x1 M1 (by omega) hc hx1 (by omega)
          · intro (c1 : x5 < (M1 60 61))
            refine And.intro ?_ ?_
            · intro (c3 : x4 = 0)
              refine And.intro ?_ ?_
              · intro (c4 : x4 = 0)
                show Q 100 [(3, (0, 0, 1, 2147483647, x3 + 1)), (5, (0, 0, 0, 12, x5)), (4, (0, 0, 0, 1, x4)), (2, (0, 0, (-2147483648), 2147483647, x2)), (1, (0, 0, (-2147483648), 2147483647, x1)), (0, (2, 60, 0, 0, 0))] [] M1
                refine hgo.2.1 100 _ [(3, (0, 0, 0, 2147483647, x3 + 1)), (2, (0, 0, (-2147483648), 2147483647, x2)), (1, (0, 0, (-2147483648), 2147483647, x1)), (0, (2, 60, 0, 0, 0))] _ _ (xa_subI rfl rfl (fun _ _ _ _ => by omega) (xa_subI rfl rfl (fun _ _ _ _ => by omega) (xa_subI rfl rfl (fun _ _ _ _ => by omega) (xa_subR rfl xa_sub0)))) ?_
                exact ih2 (x3 + 1) x2 x1 M1 (by omega) hc hx1 (by omega)
              · intro (c4 : ¬ x4 = 0)
                show xa_C xm_I A h0 _ 136 [(0, 0, 0, 2147483646, x3)] M1 _
                refine ct_bitCount ?_
                show Q 100 [(3, (0, 0, 1, 2147483647, x3 + 1)), (2, (0, 0, (-2147483648), 2147483647, xa_bc x3)), (5, (0, 0, 0, 12, x5)), (4, (0, 0, 0, 1, x4)), (1, (0, 0, (-2147483648), 2147483647, x1)), (0, (2, 60, 0, 0, 0))] [] M1
                refine hgo.2.1 100 _ [(3, (0, 0, 0, 2147483647, x3 + 1)), (2, (0, 0, (-2147483648), 2147483647, xa_bc x3)), (1, (0, 0, (-2147483648), 2147483647, x1)), (0, (2, 60, 0, 0, 0))] _ _ (xa_subI rfl rfl (fun _ _ _ _ => by omega) (xa_subI rfl rfl (fun _ _ _ _ => by omega) (xa_subI rfl rfl (fun _ _ _ _ => by omega) (xa_subR rfl xa_sub0)))) ?_
                exact ih2 (x3 + 1) (xa_bc x3) x1 M1 (by omega) hc hx1 (by omega)
            · intro (c3 : ¬ x4 = 0)
              show Q 156 [(7, (0, 0, 0, 0, 0)), (6, (0, 0, 0, 0, 0)), (5, (0, 0, 0, 12, x5)), (4, (0, 0, 0, 1, x4)), (3, (0, 0, 0, 2147483646, x3)), (2, (0, 0, (-2147483648), 2147483647, x2)), (1, (0, 0, (-2147483648), 2147483647, x1)), (0, (2, 60, 0, 0, 0))] [] M1
              refine hgo.2.1 156 _ [(7, (0, 0, 0, 14, 0)), (6, (0, 0, 0, 1, 0)), (5, (0, 0, 0, 11, x5)), (4, (0, 0, 0, 1, x4)), (3, (0, 0, 0, 2147483646, x3)), (2, (0, 0, (-2147483648), 2147483647, x2)), (1, (0, 0, (-2147483648), 2147483647, x1)), (0, (2, 60, 0, 0, 0))] _ _ (xa_subI rfl rfl (fun _ _ _ _ => by omega) (xa_subI rfl rfl (fun _ _ _ _ => by omega) (xa_subI rfl rfl (fun _ _ _ _ => by omega) (xa_subI rfl rfl (fun _ _ _ _ => by omega) (xa_subI rfl rfl (fun _ _ _ _ => by omega) (xa_subI rfl rfl (fun _ _ _ _ => by omega) (xa_subI rfl rfl (fun _ _ _ _ => by omega) (xa_subR rfl xa_sub0)))))))) ?_
              exact loop4 15 0 0 M1 (by omega) (by omega) (by omega) (by omega) (by omega) hc (by omega) (by omega)
      refine hgo.1 24 [9, 22, 100, 136, 156] 100 _ _ _ ?_
      refine And.intro ?_ ?_
      · intro (c1 : (xa_ib 6 1 (M1 60 0)) ≤ x3)
        show xa_C xm_I A h0 _ 231 [(2, 60, 0, 0, 0), (1, 0, (-2147483648), 2147483647, x2)] (xa_up M1 60 20 0) _
        refine ct_tell (n := 0) (by first | rfl | (simp [xa_up]; done) | omega) (by omega) (by omega) ?_
        show post (some (0, 0, (-2147483648), 2147483647, x1)) (xa_up (xa_up (xa_up M1 60 20 0) 74 0 x2) 60 20 1)
        exact k _ _ _ _ hx1 (xm_cor_f (by omega) (xm_cor_a rfl (xm_cor_f (by omega) hc))) xa_up_eq
      · intro (c1 : x3 < (xa_ib 6 1 (M1 60 0)))
        refine And.intro ?_ ?_
        · intro (c2 : ¬ x1 = 0)
          show xa_C xm_I A h0 _ 231 [(2, 60, 0, 0, 0), (1, 0, (-2147483648), 2147483647, x2)] (xa_up M1 60 20 0) _
          refine ct_tell (n := 0) (by first | rfl | (simp [xa_up]; done) | omega) (by omega) (by omega) ?_
          show post (some (0, 0, (-2147483648), 2147483647, x1)) (xa_up (xa_up (xa_up M1 60 20 0) 74 0 x2) 60 20 1)
          exact k _ _ _ _ hx1 (xm_cor_f (by omega) (xm_cor_a rfl (xm_cor_f (by omega) hc))) xa_up_eq
        · intro (c2 : x1 = 0)
          refine And.intro ?_ ?_
          · intro (c3 : x2 = (-1))
            show Q 136 [(5, (0, 0, 0, 0, 0)), (4, (0, 0, 1, 1, 1)), (3, (0, 0, 0, 2147483647, x3)), (2, (0, 0, (-2147483648), 2147483647, x2)), (1, (0, 0, (-2147483648), 2147483647, x1)), (0, (2, 60, 0, 0, 0))] [] M1
            refine hgo.2.1 136 _ [(5, (0, 0, 0, 12, 0)), (4, (0, 0, 0, 1, 1)), (3, (0, 0, 0, 2147483646, x3)), (2, (0, 0, (-2147483648), 2147483647, x2)), (1, (0, 0, (-2147483648), 2147483647, x1)), (0, (2, 60, 0, 0, 0))] _ _ (xa_subI rfl rfl (fun _ _ _ _ => by omega) (xa_subI rfl rfl (fun _ _ _ _ => by omega) (xa_subI rfl rfl (fun _ _ _ _ => by omega) (xa_subI rfl rfl (fun _ _ _ _ => by omega) (xa_subI rfl rfl (fun _ _ _ _ => by omega) (xa_subR rfl xa_sub0)))))) ?_
            exact loop3 13 0 1 M1 (by omega) (by omega) (by omega) hc (by omega) (by omega)
          · intro (c3 : ¬ x2 = (-1))
            show xa_C xm_I A h0 _ 136 [(0, 0, 0, 2147483647, x3)] M1 _
            refine ct_bitCount ?_
            refine And.intro ?_ ?_
            · intro (c4 : (xa_bc x3) < x2)
              show Q 136 [(5, (0, 0, 0, 0, 0)), (4, (0, 0, 1, 1, 1)), (3, (0, 0, 0, 2147483647, x3)), (2, (0, 0, (-2147483648), 2147483647, x2)), (1, (0, 0, (-2147483648), 2147483647, x1)), (0, (2, 60, 0, 0, 0))] [] M1
              refine hgo.2.1 136 _ [(5, (0, 0, 0, 12, 0)), (4, (0, 0, 0, 1, 1)), (3, (0, 0, 0, 2147483646, x3)), (2, (0, 0, (-2147483648), 2147483647, x2)), (1, (0, 0, (-2147483648), 2147483647, x1)), (0, (2, 60, 0, 0, 0))] _ _ (xa_subI rfl rfl (fun _ _ _ _ => by omega) (xa_subI rfl rfl (fun _ _ _ _ => by omega) (xa_subI rfl rfl (fun _ _ _ _ => by omega) (xa_subI rfl rfl (fun _ _ _ _ => by omega) (xa_subI rfl rfl (fun _ _ _ _ => by omega) (xa_subR rfl xa_sub0)))))) ?_
              exact loop3 13 0 1 M1 (by omega) (by omega) (by omega) hc (by omega) (by omega)
            · intro (c4 : x2 ≤ (xa_bc x3))
              show Q 100 [(3, (0, 0, (-2147483648), 2147483647, xa_w32 (x3 + 1))), (2, (0, 0, (-2147483648), 2147483647, x2)), (1, (0, 0, (-2147483648), 2147483647, x1)), (0, (2, 60, 0, 0, 0))] [] M1
              refine hgo.2.1 100 _ [(3, (0, 0, 0, 2147483647, xa_w32 (x3 + 1))), (2, (0, 0, (-2147483648), 2147483647, x2)), (1, (0, 0, (-2147483648), 2147483647, x1)), (0, (2, 60, 0, 0, 0))] _ _ (xa_subI rfl rfl (fun _ _ _ _ => by omega) (xa_subI rfl rfl (fun _ _ _ _ => by omega) (xa_subI rfl rfl (fun _ _ _ _ => by omega) (xa_subR rfl xa_sub0)))) ?_
              exact ih2 (xa_w32 (x3 + 1)) x2 x1 M1 (by omega) hc hx1 (by omega)
  have loop0 : ∀ (n : Nat) (x2 x1 : Int) (M1 : xa_M), 0 ≤ x2 ∧ x2 ≤ M 60 61 → xm_cor M M1 → x1 = br_b (br_no (M 100) (M 101) (M 102) (M 103) (M 64) (M 65) (M 63) (M 60 0)) x2.toNat → 12 - x2 < (n : Int) → Q 9 [(2, (0, 0, 0, 12, x2)), (1, (0, 0, (-2147483648), 2147483647, x1)), (0, (2, 60, 0, 0, 0))] [] M1 := by
    intro n
    induction n with
    | zero => intro x2 x1 M1 b2 hc hb hms; omega
    | succ n ih0 =>
      intro x2 x1 M1 b2 hc hb hms0
      have ei : ((x2.toNat : Nat) : Int) = x2 := Int.toNat_of_nonneg b2.1
      have hr := br_b_r (P := (br_no (M 100) (M 101) (M 102) (M 103) (M 64) (M 65) (M 63) (M 60 0))) x2.toNat
      rw [← hb] at hr
      have e0 := xm_corf hc 0 (by omega)
      have e6 := xm_corf hc 6 (by omega)
      have e61 := xm_corf hc 61 (by omega)
      have e11 := xm_corf hc 11 (by omega)
      have e15 := xm_corf hc 15 (by omega)
      have e16 := xm_corf hc 16 (by omega)
      have loop1 : ∀ (n : Nat) (x4 x3 : Int) (M1 : xa_M), 0 ≤ x4 ∧ x4 ≤ 14 → 0 ≤ x3 ∧ x3 ≤ 1 → (0 ≤ x2 ∧ x2 ≤ 11) ∧ x2 < M 60 61 → xm_cor M M1 → br_s (br_is (M 100) (M 101) (M 102) (M 103) (M 64) (M 65) (M 63) x2) x4 x3 → x4 ≤ M 60 0 → 14 - x4 < (n : Int) → Q 22 [(4, (0, 0, 0, 14, x4)), (3, (0, 0, 0, 1, x3)), (2, (0, 0, 0, 11, x2)), (1, (0, 0, (-2147483648), 2147483647, x1)), (0, (2, 60, 0, 0, 0))] [] M1 := by
        intro n
        induction n with
        | zero => intro x4 x3 M1 b4 b3 f2 hc hs h4 hms; omega
        | succ n ih1 =>
          intro x4 x3 M1 b4 b3 f2 hc hs h4 hms1
          have e0 := xm_corf hc 0 (by omega)
          have e6 := xm_corf hc 6 (by omega)
          have e61 := xm_corf hc 61 (by omega)
          have e11 := xm_corf hc 11 (by omega)
          have e15 := xm_corf hc 15 (by omega)
          have e16 := xm_corf hc 16 (by omega)
          refine hgo.1 32 [9, 22, 100, 136, 156] 22 _ _ _ ?_
          refine And.intro ?_ ?_
          · intro (c1 : (M1 60 0) ≤ x4)
            refine And.intro ?_ ?_
            · intro (c2 : x3 = 0)
              show Q 9 [(2, (0, 0, 1, 12, x2 + 1)), (1, (0, 0, (-2147483648), 2147483647, xa_ib 4 x1 (xa_ib 6 1 x2))), (4, (0, 0, 0, 14, x4)), (3, (0, 0, 0, 1, x3)), (0, (2, 60, 0, 0, 0))] [] M1
              refine hgo.2.1 9 _ [(2, (0, 0, 0, 12, x2 + 1)), (1, (0, 0, (-2147483648), 2147483647, xa_ib 4 x1 (xa_ib 6 1 x2))), (0, (2, 60, 0, 0, 0))] _ _ (xa_subI rfl rfl (fun _ _ _ _ => by omega) (xa_subI rfl rfl (fun _ _ _ _ => by omega) (xa_subR rfl xa_sub0))) ?_
              have eb : xa_ib 4 x1 (xa_ib 6 1 x2) = br_b (br_no (M 100) (M 101) (M 102) (M 103) (M 64) (M 65) (M 63) (M 60 0)) (x2 + 1).toNat := by
                rw [show (x2 + 1).toNat = x2.toNat + 1 by omega, br_b1 (show (br_no (M 100) (M 101) (M 102) (M 103) (M 64) (M 65) (M 63) (M 60 0)) ((x2.toNat : Nat) : Int) by rw [ei]; exact fun w w0 w1 => br_s_no hs (by omega) w w0 (by omega)), ← hb, ei]
              exact ih0 (x2 + 1) _ M1 (by omega) hc eb (by omega)
            · intro (c2 : ¬ x3 = 0)
              show Q 9 [(2, (0, 0, 1, 12, x2 + 1)), (1, (0, 0, (-2147483648), 2147483647, xa_ib 4 x1 0)), (4, (0, 0, 0, 14, x4)), (3, (0, 0, 0, 1, x3)), (0, (2, 60, 0, 0, 0))] [] M1
              refine hgo.2.1 9 _ [(2, (0, 0, 0, 12, x2 + 1)), (1, (0, 0, (-2147483648), 2147483647, xa_ib 4 x1 0)), (0, (2, 60, 0, 0, 0))] _ _ (xa_subI rfl rfl (fun _ _ _ _ => by omega) (xa_subI rfl rfl (fun _ _ _ _ => by omega) (xa_subR rfl xa_sub0))) ?_
              have eb : xa_ib 4 x1 0 = br_b (br_no (M 100) (M 101) (M 102) (M 103) (M 64) (M 65) (M 63) (M 60 0)) (x2 + 1).toNat := by
                rw [show (x2 + 1).toNat = x2.toNat + 1 by omega, br_b0 (show ¬ (br_no (M 100) (M 101) (M 102) (M 103) (M 64) (M 65) (M 63) (M 60 0)) ((x2.toNat : Nat) : Int) by rw [ei]; exact fun hh => br_s_so hs (by omega) (fun w w0 w1 => hh w w0 (by omega))), ← hb, br_or0 hr.1 hr.2]
              exact ih0 (x2 + 1) _ M1 (by omega) hc eb (by omega)
          · intro (c1 : x4 < (M1 60 0))
            refine And.intro ?_ ?_
            · intro (c3 : ¬ x3 = 0)
              show Q 22 [(4, (0, 0, 1, 15, x4 + 1)), (3, (0, 0, 1, 1, 1)), (2, (0, 0, 0, 11, x2)), (1, (0, 0, (-2147483648), 2147483647, x1)), (0, (2, 60, 0, 0, 0))] [] M1
              refine hgo.2.1 22 _ [(4, (0, 0, 0, 14, x4 + 1)), (3, (0, 0, 0, 1, 1)), (2, (0, 0, 0, 11, x2)), (1, (0, 0, (-2147483648), 2147483647, x1)), (0, (2, 60, 0, 0, 0))] _ _ (xa_subI rfl rfl (fun _ _ _ _ => by omega) (xa_subI rfl rfl (fun _ _ _ _ => by omega) (xa_subI rfl rfl (fun _ _ _ _ => by omega) (xa_subI rfl rfl (fun _ _ _ _ => by omega) (xa_subR rfl xa_sub0))))) ?_
              exact ih1 (x4 + 1) 1 M1 (by omega) (by omega) (by omega) hc (br_s_k hs (by omega)) (by omega) (by omega)
            · intro (c3 : x3 = 0)
              refine And.intro (show 0 ≤ x4 ∧ x4 < 14 by omega) ?_
              refine And.intro (show 0 ≤ x4 ∧ x4 < 14 by omega) ?_
              refine And.intro (show 0 ≤ x4 ∧ x4 < 14 by omega) ?_
              show xa_C xm_I A h0 _ 292 [(2, 60, 0, 0, 0), (0, 0, 0, 11, x2), (0, 0, 0, 9, M1 64 x4), (0, 0, 0, 9, M1 65 x4), (0, 0, 0, 400, M1 63 x4)] M1 _
              refine ct_isLeft (by omega) (by omega) (fun r4 zr4 er4 => ?_)
              refine And.intro ?_ ?_
              · intro (c5 : r4 = 0)
                show Q 22 [(4, (0, 0, 1, 15, x4 + 1)), (3, (0, 0, 0, 0, 0)), (2, (0, 0, 0, 11, x2)), (1, (0, 0, (-2147483648), 2147483647, x1)), (0, (2, 60, 0, 0, 0))] [] M1
                refine hgo.2.1 22 _ [(4, (0, 0, 0, 14, x4 + 1)), (3, (0, 0, 0, 1, 0)), (2, (0, 0, 0, 11, x2)), (1, (0, 0, (-2147483648), 2147483647, x1)), (0, (2, 60, 0, 0, 0))] _ _ (xa_subI rfl rfl (fun _ _ _ _ => by omega) (xa_subI rfl rfl (fun _ _ _ _ => by omega) (xa_subI rfl rfl (fun _ _ _ _ => by omega) (xa_subI rfl rfl (fun _ _ _ _ => by omega) (xa_subR rfl xa_sub0))))) ?_
                exact ih1 (x4 + 1) 0 M1 (by omega) (by omega) (by omega) hc (br_s_n hs (by omega) (fun hh => by have := er4.mpr ((br_isM hc).mpr hh); omega)) (by omega) (by omega)
              · intro (c5 : ¬ r4 = 0)
                show Q 22 [(4, (0, 0, 1, 15, x4 + 1)), (3, (0, 0, 1, 1, 1)), (2, (0, 0, 0, 11, x2)), (1, (0, 0, (-2147483648), 2147483647, x1)), (0, (2, 60, 0, 0, 0))] [] M1
                refine hgo.2.1 22 _ [(4, (0, 0, 0, 14, x4 + 1)), (3, (0, 0, 0, 1, 1)), (2, (0, 0, 0, 11, x2)), (1, (0, 0, (-2147483648), 2147483647, x1)), (0, (2, 60, 0, 0, 0))] _ _ (xa_subI rfl rfl (fun _ _ _ _ => by omega) (xa_subI rfl rfl (fun _ _ _ _ => by omega) (xa_subI rfl rfl (fun _ _ _ _ => by omega) (xa_subI rfl rfl (fun _ _ _ _ => by omega) (xa_subR rfl xa_sub0))))) ?_
                exact ih1 (x4 + 1) 1 M1 (by omega) (by omega) (by omega) hc (br_s_y (by omega) ((br_isM hc).mp (er4.mp (by omega)))) (by omega) (by omega)
      refine hgo.1 13 [9, 22, 100, 136, 156] 9 _ _ _ ?_
      refine And.intro ?_ ?_
      · intro (c1 : (M1 60 61) ≤ x2)
        show Q 100 [(3, (0, 0, 0, 0, 0)), (2, (0, 0, (-1), (-1), (-1))), (1, (0, 0, (-2147483648), 2147483647, x1)), (0, (2, 60, 0, 0, 0))] [] M1
        refine hgo.2.1 100 _ [(3, (0, 0, 0, 2147483647, 0)), (2, (0, 0, (-2147483648), 2147483647, (-1))), (1, (0, 0, (-2147483648), 2147483647, x1)), (0, (2, 60, 0, 0, 0))] _ _ (xa_subI rfl rfl (fun _ _ _ _ => by omega) (xa_subI rfl rfl (fun _ _ _ _ => by omega) (xa_subI rfl rfl (fun _ _ _ _ => by omega) (xa_subR rfl xa_sub0)))) ?_
        exact loop2 ((xa_ib 6 1 (M 60 0)).toNat + 1) 0 (-1) x1 M1 (by omega) hc (by rw [hb, show x2 = M 60 61 by omega]) (by omega)
      · intro (c1 : x2 < (M1 60 61))
        show Q 22 [(4, (0, 0, 0, 0, 0)), (3, (0, 0, 0, 0, 0)), (2, (0, 0, 0, 12, x2)), (1, (0, 0, (-2147483648), 2147483647, x1)), (0, (2, 60, 0, 0, 0))] [] M1
        refine hgo.2.1 22 _ [(4, (0, 0, 0, 14, 0)), (3, (0, 0, 0, 1, 0)), (2, (0, 0, 0, 11, x2)), (1, (0, 0, (-2147483648), 2147483647, x1)), (0, (2, 60, 0, 0, 0))] _ _ (xa_subI rfl rfl (fun _ _ _ _ => by omega) (xa_subI rfl rfl (fun _ _ _ _ => by omega) (xa_subI rfl rfl (fun _ _ _ _ => by omega) (xa_subI rfl rfl (fun _ _ _ _ => by omega) (xa_subR rfl xa_sub0))))) ?_
        exact loop1 15 0 0 M1 (by omega) (by omega) (by omega) hc br_s_0 (by omega) (by omega)
  refine hgo.1 12 [9, 22, 100, 136, 156] 0 _ _ _ ?_
  show Q 9 [(2, (0, 0, 0, 0, 0)), (1, (0, 0, 0, 0, 0)), (0, (2, 60, 0, 0, 0))] [] (xa_up M 60 21 0)
  refine hgo.2.1 9 _ [(2, (0, 0, 0, 12, 0)), (1, (0, 0, (-2147483648), 2147483647, 0)), (0, (2, 60, 0, 0, 0))] _ _ (xa_subI rfl rfl (fun _ _ _ _ => by omega) (xa_subI rfl rfl (fun _ _ _ _ => by omega) (xa_subR rfl xa_sub0))) ?_
  exact loop0 13 0 0 (xa_up M 60 21 0) (by omega) (xm_cor_f (by omega) xm_cor_r) rfl (by omega)
theorem rz_p194 (A : Nat → Nat) (cmp : Bool) : iv_pair (rz_J A) A 194 291 [] cmp false := rz_armV (fun W b h as M hJ hM hInv hs hR hz => by
  obtain rfl := iv_sp0 hs
  have b0 := xm_f0 (xa_H_Mok hM)
  have b6 := xm_f6 (xa_H_Mok hM)
  have r1 : iv_num h 1 9 = M 60 0 := hR.1.1
  have r2 : iv_num h 1 10 = M 60 6 := hR.1.2.1
  have r3 : ∀ i, 0 ≤ i → i < 14 → iv_num h 2 i = M 61 i ∧ iv_num h 3 i = M 62 i ∧ iv_num h 5 i = M 64 i ∧ iv_num h 6 i = M 65 i ∧ iv_num h 4 i = M 63 i := hR.1.2.2.1
  have r4 : ∀ i, 0 ≤ i → i < 16 → iv_num h 7 i = M 66 i ∧ iv_num h 8 i = M 67 i := hR.1.2.2.2
  have hS := hR.2
  have hX : lm_X (xj (iv_num h) M) := hR.2.2
  have s1 : iv_num h 43 4 = M 60 61 := hX.2.2.1
  have s4 : ∀ i, 0 ≤ i → i < 12 → iv_num h 44 i = M 100 i := hX.2.2.2.2.2.2.1
  have s5 : ∀ i, 0 ≤ i → i < 12 → iv_num h 45 i = M 101 i := hX.2.2.2.2.2.2.2.1
  have s6 : ∀ i, 0 ≤ i → i < 12 → iv_num h 46 i = M 102 i := hX.2.2.2.2.2.2.2.2.1
  have s7 : ∀ i, 0 ≤ i → i < 12 → iv_num h 47 i = M 103 i := hX.2.2.2.2.2.2.2.2.2.1
  have b61 := xm_f61 (xa_H_Mok hM)
  have e : br_b (br_no (iv_num h 44) (iv_num h 45) (iv_num h 46) (iv_num h 47) (iv_num h 5) (iv_num h 6) (iv_num h 4) (iv_num h 1 9)) (iv_num h 43 4).toNat = br_b (br_no (M 100) (M 101) (M 102) (M 103) (M 64) (M 65) (M 63) (M 60 0)) (M 60 61).toNat := by
    rw [s1]
    refine br_b_e _ (fun k hk => ?_)
    have k1 : (k : Int) < 12 := by omega
    unfold br_no
    rw [r1]
    have is : ∀ w, 0 ≤ w → w < M 60 0 → (br_is (iv_num h 44) (iv_num h 45) (iv_num h 46) (iv_num h 47) (iv_num h 5) (iv_num h 6) (iv_num h 4) (k : Int) w ↔ br_is (M 100) (M 101) (M 102) (M 103) (M 64) (M 65) (M 63) (k : Int) w) := fun w w0 w1 => by
      obtain ⟨-, -, g3, g4, g5⟩ := r3 w w0 (by omega)
      unfold br_is
      rw [s4 _ (by omega) k1, s5 _ (by omega) k1, s6 _ (by omega) k1, s7 _ (by omega) k1, g3, g4, g5]
    exact ⟨fun h w w0 w1 hh => h w w0 w1 ((is w w0 w1).mpr hh), fun h w w0 w1 hh => h w w0 w1 ((is w w0 w1).mp hh)⟩
  have hc := rx_194 (b := b) (A := A) (h0 := h) (d := 54) (M := iv_num h) (post := fun o M1 => ∃ lo hi n, o = some (0, 0, lo, hi, n) ∧ ((n = br_b (br_no (M 100) (M 101) (M 102) (M 103) (M 64) (M 65) (M 63) (M 60 0)) (M 60 61).toNat ∧ ∀ q j, ¬ q = 48 → ¬ q = 49 → M1 q j = iv_num h q j) ∧ M1 48 1 = 1)) (by omega) (by omega) (fun r M1 e1 e2 z => ⟨_, _, r, rfl, ⟨e1.trans e, e2⟩, z⟩)
  have hm := fun (h1 : g_H) => rm_breaks (A := A) (h0 := h1) (d := 57) (M := M) (post := fun o M2 => (∃ lo hi n, o = some (0, 0, lo, hi, n) ∧ ((n = br_b (br_no (M 100) (M 101) (M 102) (M 103) (M 64) (M 65) (M 63) (M 60 0)) (M 60 61).toNat ∧ xm_cor M M2) ∧ M2 60 20 = 1)) ∧ xm_Inv M2) hInv (fun lo hi r M2 e1 e2 z => ⟨⟨lo, hi, r, rfl, ⟨e1, e2⟩, z⟩, xm_Inv_cor e2 hInv⟩)
  refine ⟨[(2, 0, 0, 0, 0)], [(2, 60, 0, 0, 0)], _, _, ⟨rfl, trivial⟩, ⟨rfl, trivial⟩, fun n n' M1 M2 h1 h2 => ⟨fun _ => h1.1.1.trans h2.1.1.symm, fun x => h2.1.2 104 x (by unfold xm_scr; omega), fun x => h2.1.2 105 x (by unfold xm_scr; omega), xq_lmR hR (fun q j hC hq => h1.1.2 q j (by first | (have t9 := lm_Cq hC; omega) | (unfold lm_C at hC; omega)) (by first | (have t9 := lm_Cq hC; omega) | (unfold lm_C at hC; omega))) h2.1.2, h1.2.trans h2.2.symm⟩, hc, hm⟩)
theorem rz_60k {b : Bool} {A : Nat → Nat} {h0 : g_H} {d : Nat} {M : xa_M} {post : Option xa_V → xa_M → Prop} {l1 u1 : Int} {x : Int} {N : xa_M} {c e : Int} (hK : pl_K N M) (h48 : M 48 1 = c) (hce : 0 ≤ c ∧ c < 16 ∧ e = c + 1) (k : ∀ M1 : xa_M, pl_K N M1 → M1 48 1 = e → post none M1) : xa_C (xl_I b) A h0 (d + 2) 60 [(2, 48, 0, 0, 0), (1, 0, l1, u1, x)] M post :=
  cx_60_48 (by omega) (fun h => absurd h (by omega)) (fun h => k _ (fun q j h1 h2 => (xa_up_ne (by omega)).trans ((xa_up_ne (by omega)).trans (hK q j h1 h2))) (by
    rw [xa_up_eq, xa_w32_id (by omega) (by omega)]
    omega))
theorem rz_148k {b : Bool} {A : Nat → Nat} {h0 : g_H} {d : Nat} {M : xa_M} {post : Option xa_V → xa_M → Prop} {c e : Int} {l0 u0 : Int} {x : Int} (h1 : 0 ≤ x ∧ x ≤ 196) (h48 : M 48 1 = c) (hce : 0 ≤ c ∧ c < 14 ∧ e = c + 1) (k : ∀ M1 : xa_M, pl_K M M1 → M1 48 1 = e → post (some (0, 0, 0, 196, x)) M1) : xa_C (xl_I b) A h0 (d + 3) 148 [(0, 0, l0, u0, x), (2, 48, 0, 0, 0)] M post := by
  refine xa_C_arg [(0, 0, 0, 196, x), (2, 48, 0, 0, 0)] (xa_svI (fun _ _ _ _ => by omega) (xa_svR (xa_sv0))) ?_
  refine xa_meth (Q0 := (2, 1, false, 0, 0, 4)) (by decide +kernel) ⟨rfl, rfl⟩ (full := s_c_148) rfl rfl ?_
  intro hM hv Q hgo
  have hK0 : pl_K M M := fun _ _ _ _ => rfl
  refine hgo.1 10 [] 0 _ _ _ ?_
  show xa_C (xl_I b) A h0 _ 60 [(2, 48, 0, 0, 0), (1, 0, 0, 196, x)] M _
  refine rz_60k (N := M) (c := c) (e := c + 1) (by first | assumption | exact hK0) h48 (by omega) ?_
  intro M101 (i1 : pl_K M M101) (i2 : M101 48 1 = c + 1)
  show post (some (0, 0, 0, 196, x)) M101
  exact k _ i1 (i2.trans hce.2.2.symm)
theorem rz_148kN {b : Bool} {A : Nat → Nat} {h0 : g_H} {d : Nat} {M : xa_M} {post : Option xa_V → xa_M → Prop} {c e : Int} {l0 u0 x : Int} {N : xa_M} (hK : pl_K N M) (h1 : 0 ≤ x ∧ x ≤ 196) (h48 : M 48 1 = c) (hce : 0 ≤ c ∧ c < 14 ∧ e = c + 1) (k : ∀ M1 : xa_M, pl_K N M1 → M1 48 1 = e → post (some (0, 0, 0, 196, x)) M1) : xa_C (xl_I b) A h0 (d + 3) 148 [(0, 0, l0, u0, x), (2, 48, 0, 0, 0)] M post := by
  exact rz_148k h1 h48 hce (fun M1 g1 g2 => k M1 (fun q j h1 h2 => (g1 q j h1 h2).trans (hK q j h1 h2)) g2)
theorem rz_145a {b : Bool} {A : Nat → Nat} {h0 : g_H} {d : Nat} {M : xa_M} {post : Option xa_V → xa_M → Prop} {c e : Int} {l1 u1 : Int} (hF : pl_F M) (h48 : M 48 1 = c) (hce : 0 ≤ c ∧ c < 14 ∧ e = c + 2) (k : ∀ M1 : xa_M, pl_K M M1 → M1 48 1 = e → post (some (0, 0, 0, 16, pl_ct (pl_sk (M 6) (M 7) (M 8)) (M 1 10).toNat)) M1) : xa_C (xl_I b) A h0 (d + 4) 145 [(2, 1, 0, 0, 0), (0, 0, l1, u1, (-1)), (2, 48, 0, 0, 0)] M post := by
  refine xa_C_arg [(2, 1, 0, 0, 0), (0, 0, (-1), (-1), (-1)), (2, 48, 0, 0, 0)] (xa_svR (xa_svI (fun _ _ _ _ => by omega) (xa_svR (xa_sv0)))) ?_
  refine xa_meth (Q0 := (6, 1, false, 0, 0, 4)) (by decide +kernel) ⟨rfl, rfl⟩ (full := s_c_145) rfl rfl ?_
  intro hM hv Q hgo
  have hK0 : pl_K M M := fun _ _ _ _ => rfl
  have hm : 0 ≤ M 1 10 ∧ M 1 10 ≤ 16 := hF.2.1
  have loop : ∀ (n : Nat) (i nn f : Int), 0 ≤ i ∧ i ≤ M 1 10 → -1 ≤ f ∧ f ≤ 15 → nn = pl_ct (pl_sk (M 6) (M 7) (M 8)) i.toNat → 16 - i < (n : Int) → Q 8 [(5, (0, 0, 0, 16, i)), (3, (0, 0, 0, 16, nn)), (4, (0, 0, (-1), 15, f)), (0, (2, 1, 0, 0, 0)), (1, (0, 0, (-1), (-1), (-1))), (2, (2, 48, 0, 0, 0))] [] M := by
    intro n
    induction n with
    | zero => intro i nn f i1 f1 hb hms; omega
    | succ n ih =>
      intro i nn f i1 f1 hb hms
      have ei : ((i.toNat : Nat) : Int) = i := Int.toNat_of_nonneg i1.1
      have hr1 := pl_ct_r (P := (pl_sk (M 6) (M 7) (M 8))) i.toNat
      rw [← hb] at hr1
      refine hgo.1 25 [8] 8 _ _ _ ?_
      refine And.intro ?_ ?_
      · intro (c1 : (M 1 10) ≤ i)
        show xa_C (xl_I b) A h0 _ 60 [(2, 48, 0, 0, 0), (1, 0, 0, 16, nn)] M _
        refine rz_60k (N := M) (c := c) (e := c + 1) (by first | assumption | exact hK0) h48 (by omega) ?_
        intro M102 (i2 : pl_K M M102) (i3 : M102 48 1 = c + 1)
        show xa_C (xl_I b) A h0 _ 60 [(2, 48, 0, 0, 0), (1, 0, (-1), 15, f)] M102 _
        refine rz_60k (N := M) (c := c + 1) (e := c + 2) (by first | assumption | exact hK0) i3 (by omega) ?_
        intro M103 (i4 : pl_K M M103) (i5 : M103 48 1 = c + 2)
        show post (some (0, 0, 0, 16, nn)) M103
        rw [hb, show i = M 1 10 by omega]
        exact k _ i4 (i5.trans hce.2.2.symm)
      · intro (c1 : i < (M 1 10))
        show xa_C (xl_I b) A h0 _ 146 [(2, 1, 0, 0, 0), (0, 0, 0, 16, i)] M _
        refine cx_146p (show 0 ≤ i ∧ i < M 1 10 by omega) hF hm.2 ?_ ?_
        · intro (i6 : (pl_sk (M 6) (M 7) (M 8)) i)
          refine And.intro ?_ ?_
          · intro (c7 : ¬ nn = 0)
            show Q 8 [(5, (0, 0, 1, 17, i + 1)), (3, (0, 0, 1, 17, nn + 1)), (4, (0, 0, (-1), 15, f)), (0, (2, 1, 0, 0, 0)), (1, (0, 0, (-1), (-1), (-1))), (2, (2, 48, 0, 0, 0))] [] M
            have en : nn + 1 = pl_ct (pl_sk (M 6) (M 7) (M 8)) (i + 1).toNat := by
              rw [show (i + 1).toNat = i.toNat + 1 by omega, pl_ct1 (show (pl_sk (M 6) (M 7) (M 8)) ((i.toNat : Nat) : Int) by rw [ei]; exact i6), ← hb]
            refine hgo.2.1 8 _ [(5, (0, 0, 0, 16, i + 1)), (3, (0, 0, 0, 16, nn + 1)), (4, (0, 0, (-1), 15, f)), (0, (2, 1, 0, 0, 0)), (1, (0, 0, (-1), (-1), (-1))), (2, (2, 48, 0, 0, 0))] _ _ (xa_subI rfl rfl (fun _ _ _ _ => by omega) (xa_subI rfl rfl (fun _ _ _ _ => by omega) (xa_subI rfl rfl (fun _ _ _ _ => by omega) (xa_subR rfl (xa_subI rfl rfl (fun _ _ _ _ => by omega) (xa_subR rfl (xa_sub0))))))) ?_
            exact ih (i + 1) (nn + 1) f (by omega) (by omega) en (by omega)
          · intro (c7 : nn = 0)
            show Q 8 [(5, (0, 0, 1, 17, i + 1)), (3, (0, 0, 1, 17, nn + 1)), (4, (0, 0, 0, 16, i)), (0, (2, 1, 0, 0, 0)), (1, (0, 0, (-1), (-1), (-1))), (2, (2, 48, 0, 0, 0))] [] M
            have en : nn + 1 = pl_ct (pl_sk (M 6) (M 7) (M 8)) (i + 1).toNat := by
              rw [show (i + 1).toNat = i.toNat + 1 by omega, pl_ct1 (show (pl_sk (M 6) (M 7) (M 8)) ((i.toNat : Nat) : Int) by rw [ei]; exact i6), ← hb]
            refine hgo.2.1 8 _ [(5, (0, 0, 0, 16, i + 1)), (3, (0, 0, 0, 16, nn + 1)), (4, (0, 0, (-1), 15, i)), (0, (2, 1, 0, 0, 0)), (1, (0, 0, (-1), (-1), (-1))), (2, (2, 48, 0, 0, 0))] _ _ (xa_subI rfl rfl (fun _ _ _ _ => by omega) (xa_subI rfl rfl (fun _ _ _ _ => by omega) (xa_subI rfl rfl (fun _ _ _ _ => by omega) (xa_subR rfl (xa_subI rfl rfl (fun _ _ _ _ => by omega) (xa_subR rfl (xa_sub0))))))) ?_
            exact ih (i + 1) (nn + 1) i (by omega) (by omega) en (by omega)
        · intro (i8 : ¬ (pl_sk (M 6) (M 7) (M 8)) i)
          show Q 8 [(5, (0, 0, 1, 17, i + 1)), (3, (0, 0, 0, 16, nn)), (4, (0, 0, (-1), 15, f)), (0, (2, 1, 0, 0, 0)), (1, (0, 0, (-1), (-1), (-1))), (2, (2, 48, 0, 0, 0))] [] M
          have en : nn = pl_ct (pl_sk (M 6) (M 7) (M 8)) (i + 1).toNat := by
            rw [show (i + 1).toNat = i.toNat + 1 by omega, pl_ct0 (show ¬ (pl_sk (M 6) (M 7) (M 8)) ((i.toNat : Nat) : Int) by rw [ei]; exact i8), ← hb]
          refine hgo.2.1 8 _ [(5, (0, 0, 0, 16, i + 1)), (3, (0, 0, 0, 16, nn)), (4, (0, 0, (-1), 15, f)), (0, (2, 1, 0, 0, 0)), (1, (0, 0, (-1), (-1), (-1))), (2, (2, 48, 0, 0, 0))] _ _ (xa_subI rfl rfl (fun _ _ _ _ => by omega) (xa_subI rfl rfl (fun _ _ _ _ => by omega) (xa_subI rfl rfl (fun _ _ _ _ => by omega) (xa_subR rfl (xa_subI rfl rfl (fun _ _ _ _ => by omega) (xa_subR rfl (xa_sub0))))))) ?_
          exact ih (i + 1) nn f (by omega) (by omega) en (by omega)
  refine hgo.1 11 [8] 0 _ _ _ ?_
  show Q 8 [(5, (0, 0, 0, 0, 0)), (4, (0, 0, (-1), (-1), (-1))), (3, (0, 0, 0, 0, 0)), (0, (2, 1, 0, 0, 0)), (1, (0, 0, (-1), (-1), (-1))), (2, (2, 48, 0, 0, 0))] [] M
  refine hgo.2.1 8 _ [(5, (0, 0, 0, 16, 0)), (3, (0, 0, 0, 16, 0)), (4, (0, 0, (-1), 15, (-1))), (0, (2, 1, 0, 0, 0)), (1, (0, 0, (-1), (-1), (-1))), (2, (2, 48, 0, 0, 0))] _ _ (xa_subI rfl rfl (fun _ _ _ _ => by omega) (xa_subI rfl rfl (fun _ _ _ _ => by omega) (xa_subI rfl rfl (fun _ _ _ _ => by omega) (xa_subR rfl (xa_subI rfl rfl (fun _ _ _ _ => by omega) (xa_subR rfl (xa_sub0))))))) ?_
  exact loop 17 0 0 (-1) (by omega) (by omega) rfl (by omega)
theorem rz_145aN {b : Bool} {A : Nat → Nat} {h0 : g_H} {d : Nat} {M : xa_M} {post : Option xa_V → xa_M → Prop} {c e : Int} {l1 u1 : Int} {N : xa_M} (hK : pl_K N M) (hF : pl_F N) (h48 : M 48 1 = c) (hce : 0 ≤ c ∧ c < 14 ∧ e = c + 2) (k : ∀ M1 : xa_M, pl_K N M1 → M1 48 1 = e → post (some (0, 0, 0, 16, pl_ct (pl_sk (N 6) (N 7) (N 8)) (N 1 10).toNat)) M1) : xa_C (xl_I b) A h0 (d + 4) 145 [(2, 1, 0, 0, 0), (0, 0, l1, u1, -1), (2, 48, 0, 0, 0)] M post := by
  refine rz_145a (pl_F_k hK hF) h48 hce (fun M1 g1 g2 => ?_)
  have g := k M1 (fun q j h1 h2 => (g1 q j h1 h2).trans (hK q j h1 h2)) g2
  rw [pl_Ke hK 6 (by decide) (by decide), pl_Ke hK 7 (by decide) (by decide), pl_Ke hK 8 (by decide) (by decide), pl_Ke hK 1 (by decide) (by decide)]
  exact g
theorem rz_145b {b : Bool} {A : Nat → Nat} {h0 : g_H} {d : Nat} {M : xa_M} {post : Option xa_V → xa_M → Prop} {c e : Int} {l1 u1 : Int} {sl : Int} (hF : pl_F M) (h2 : 0 ≤ sl ∧ sl ≤ 50) (h48 : M 48 1 = c) (hce : 0 ≤ c ∧ c < 14 ∧ e = c + 2) (k : ∀ M1 : xa_M, pl_K M M1 → M1 48 1 = e → post (some (0, 0, 0, 16, pl_ct (pl_of (M 9) (M 10) (M 5) (M 4) (M 7) (M 8) sl) (M 1 10).toNat)) M1) : xa_C (xl_I b) A h0 (d + 4) 145 [(2, 1, 0, 0, 0), (0, 0, l1, u1, sl), (2, 48, 0, 0, 0)] M post := by
  refine xa_C_arg [(2, 1, 0, 0, 0), (0, 0, 0, 50, sl), (2, 48, 0, 0, 0)] (xa_svR (xa_svI (fun _ _ _ _ => by omega) (xa_svR (xa_sv0)))) ?_
  refine xa_meth (Q0 := (6, 1, false, 0, 0, 4)) (by decide +kernel) ⟨rfl, rfl⟩ (full := s_c_145) rfl rfl ?_
  intro hM hv Q hgo
  have hK0 : pl_K M M := fun _ _ _ _ => rfl
  have hm : 0 ≤ M 1 10 ∧ M 1 10 ≤ 16 := hF.2.1
  have loop : ∀ (n : Nat) (i nn f : Int), 0 ≤ i ∧ i ≤ M 1 10 → -1 ≤ f ∧ f ≤ 15 → nn = pl_ct (pl_of (M 9) (M 10) (M 5) (M 4) (M 7) (M 8) sl) i.toNat → 16 - i < (n : Int) → Q 8 [(5, (0, 0, 0, 16, i)), (3, (0, 0, 0, 16, nn)), (4, (0, 0, (-1), 15, f)), (0, (2, 1, 0, 0, 0)), (1, (0, 0, 0, 50, sl)), (2, (2, 48, 0, 0, 0))] [] M := by
    intro n
    induction n with
    | zero => intro i nn f i1 f1 hb hms; omega
    | succ n ih =>
      intro i nn f i1 f1 hb hms
      have ei : ((i.toNat : Nat) : Int) = i := Int.toNat_of_nonneg i1.1
      have hr1 := pl_ct_r (P := (pl_of (M 9) (M 10) (M 5) (M 4) (M 7) (M 8) sl)) i.toNat
      rw [← hb] at hr1
      refine hgo.1 25 [8] 8 _ _ _ ?_
      refine And.intro ?_ ?_
      · intro (c1 : (M 1 10) ≤ i)
        show xa_C (xl_I b) A h0 _ 60 [(2, 48, 0, 0, 0), (1, 0, 0, 16, nn)] M _
        refine rz_60k (N := M) (c := c) (e := c + 1) (by first | assumption | exact hK0) h48 (by omega) ?_
        intro M104 (i2 : pl_K M M104) (i3 : M104 48 1 = c + 1)
        show xa_C (xl_I b) A h0 _ 60 [(2, 48, 0, 0, 0), (1, 0, (-1), 15, f)] M104 _
        refine rz_60k (N := M) (c := c + 1) (e := c + 2) (by first | assumption | exact hK0) i3 (by omega) ?_
        intro M105 (i4 : pl_K M M105) (i5 : M105 48 1 = c + 2)
        show post (some (0, 0, 0, 16, nn)) M105
        rw [hb, show i = M 1 10 by omega]
        exact k _ i4 (i5.trans hce.2.2.symm)
      · intro (c1 : i < (M 1 10))
        show xa_C (xl_I b) A h0 _ 147 [(2, 1, 0, 0, 0), (0, 0, 0, 16, i), (0, 0, 0, 50, sl)] M _
        refine cx_147p (show 0 ≤ i ∧ i < M 1 10 by omega) h2 hF hm.2 ?_ ?_
        · intro (i6 : (pl_of (M 9) (M 10) (M 5) (M 4) (M 7) (M 8) sl) i)
          refine And.intro ?_ ?_
          · intro (c7 : ¬ nn = 0)
            show Q 8 [(5, (0, 0, 1, 17, i + 1)), (3, (0, 0, 1, 17, nn + 1)), (4, (0, 0, (-1), 15, f)), (0, (2, 1, 0, 0, 0)), (1, (0, 0, 0, 50, sl)), (2, (2, 48, 0, 0, 0))] [] M
            have en : nn + 1 = pl_ct (pl_of (M 9) (M 10) (M 5) (M 4) (M 7) (M 8) sl) (i + 1).toNat := by
              rw [show (i + 1).toNat = i.toNat + 1 by omega, pl_ct1 (show (pl_of (M 9) (M 10) (M 5) (M 4) (M 7) (M 8) sl) ((i.toNat : Nat) : Int) by rw [ei]; exact i6), ← hb]
            refine hgo.2.1 8 _ [(5, (0, 0, 0, 16, i + 1)), (3, (0, 0, 0, 16, nn + 1)), (4, (0, 0, (-1), 15, f)), (0, (2, 1, 0, 0, 0)), (1, (0, 0, 0, 50, sl)), (2, (2, 48, 0, 0, 0))] _ _ (xa_subI rfl rfl (fun _ _ _ _ => by omega) (xa_subI rfl rfl (fun _ _ _ _ => by omega) (xa_subI rfl rfl (fun _ _ _ _ => by omega) (xa_subR rfl (xa_subI rfl rfl (fun _ _ _ _ => by omega) (xa_subR rfl (xa_sub0))))))) ?_
            exact ih (i + 1) (nn + 1) f (by omega) (by omega) en (by omega)
          · intro (c7 : nn = 0)
            show Q 8 [(5, (0, 0, 1, 17, i + 1)), (3, (0, 0, 1, 17, nn + 1)), (4, (0, 0, 0, 16, i)), (0, (2, 1, 0, 0, 0)), (1, (0, 0, 0, 50, sl)), (2, (2, 48, 0, 0, 0))] [] M
            have en : nn + 1 = pl_ct (pl_of (M 9) (M 10) (M 5) (M 4) (M 7) (M 8) sl) (i + 1).toNat := by
              rw [show (i + 1).toNat = i.toNat + 1 by omega, pl_ct1 (show (pl_of (M 9) (M 10) (M 5) (M 4) (M 7) (M 8) sl) ((i.toNat : Nat) : Int) by rw [ei]; exact i6), ← hb]
            refine hgo.2.1 8 _ [(5, (0, 0, 0, 16, i + 1)), (3, (0, 0, 0, 16, nn + 1)), (4, (0, 0, (-1), 15, i)), (0, (2, 1, 0, 0, 0)), (1, (0, 0, 0, 50, sl)), (2, (2, 48, 0, 0, 0))] _ _ (xa_subI rfl rfl (fun _ _ _ _ => by omega) (xa_subI rfl rfl (fun _ _ _ _ => by omega) (xa_subI rfl rfl (fun _ _ _ _ => by omega) (xa_subR rfl (xa_subI rfl rfl (fun _ _ _ _ => by omega) (xa_subR rfl (xa_sub0))))))) ?_
            exact ih (i + 1) (nn + 1) i (by omega) (by omega) en (by omega)
        · intro (i8 : ¬ (pl_of (M 9) (M 10) (M 5) (M 4) (M 7) (M 8) sl) i)
          show Q 8 [(5, (0, 0, 1, 17, i + 1)), (3, (0, 0, 0, 16, nn)), (4, (0, 0, (-1), 15, f)), (0, (2, 1, 0, 0, 0)), (1, (0, 0, 0, 50, sl)), (2, (2, 48, 0, 0, 0))] [] M
          have en : nn = pl_ct (pl_of (M 9) (M 10) (M 5) (M 4) (M 7) (M 8) sl) (i + 1).toNat := by
            rw [show (i + 1).toNat = i.toNat + 1 by omega, pl_ct0 (show ¬ (pl_of (M 9) (M 10) (M 5) (M 4) (M 7) (M 8) sl) ((i.toNat : Nat) : Int) by rw [ei]; exact i8), ← hb]
          refine hgo.2.1 8 _ [(5, (0, 0, 0, 16, i + 1)), (3, (0, 0, 0, 16, nn)), (4, (0, 0, (-1), 15, f)), (0, (2, 1, 0, 0, 0)), (1, (0, 0, 0, 50, sl)), (2, (2, 48, 0, 0, 0))] _ _ (xa_subI rfl rfl (fun _ _ _ _ => by omega) (xa_subI rfl rfl (fun _ _ _ _ => by omega) (xa_subI rfl rfl (fun _ _ _ _ => by omega) (xa_subR rfl (xa_subI rfl rfl (fun _ _ _ _ => by omega) (xa_subR rfl (xa_sub0))))))) ?_
          exact ih (i + 1) nn f (by omega) (by omega) en (by omega)
  refine hgo.1 11 [8] 0 _ _ _ ?_
  show Q 8 [(5, (0, 0, 0, 0, 0)), (4, (0, 0, (-1), (-1), (-1))), (3, (0, 0, 0, 0, 0)), (0, (2, 1, 0, 0, 0)), (1, (0, 0, 0, 50, sl)), (2, (2, 48, 0, 0, 0))] [] M
  refine hgo.2.1 8 _ [(5, (0, 0, 0, 16, 0)), (3, (0, 0, 0, 16, 0)), (4, (0, 0, (-1), 15, (-1))), (0, (2, 1, 0, 0, 0)), (1, (0, 0, 0, 50, sl)), (2, (2, 48, 0, 0, 0))] _ _ (xa_subI rfl rfl (fun _ _ _ _ => by omega) (xa_subI rfl rfl (fun _ _ _ _ => by omega) (xa_subI rfl rfl (fun _ _ _ _ => by omega) (xa_subR rfl (xa_subI rfl rfl (fun _ _ _ _ => by omega) (xa_subR rfl (xa_sub0))))))) ?_
  exact loop 17 0 0 (-1) (by omega) (by omega) rfl (by omega)
theorem rz_145bN {b : Bool} {A : Nat → Nat} {h0 : g_H} {d : Nat} {M : xa_M} {post : Option xa_V → xa_M → Prop} {c e : Int} {l1 u1 sl : Int} {N : xa_M} (hK : pl_K N M) (hF : pl_F N) (h2 : 0 ≤ sl ∧ sl ≤ 50) (h48 : M 48 1 = c) (hce : 0 ≤ c ∧ c < 14 ∧ e = c + 2) (k : ∀ M1 : xa_M, pl_K N M1 → M1 48 1 = e → post (some (0, 0, 0, 16, pl_ct (pl_of (N 9) (N 10) (N 5) (N 4) (N 7) (N 8) sl) (N 1 10).toNat)) M1) : xa_C (xl_I b) A h0 (d + 4) 145 [(2, 1, 0, 0, 0), (0, 0, l1, u1, sl), (2, 48, 0, 0, 0)] M post := by
  refine rz_145b (pl_F_k hK hF) h2 h48 hce (fun M1 g1 g2 => ?_)
  have g := k M1 (fun q j h1 h2 => (g1 q j h1 h2).trans (hK q j h1 h2)) g2
  rw [pl_Ke hK 9 (by decide) (by decide), pl_Ke hK 10 (by decide) (by decide), pl_Ke hK 5 (by decide) (by decide), pl_Ke hK 4 (by decide) (by decide), pl_Ke hK 7 (by decide) (by decide), pl_Ke hK 8 (by decide) (by decide), pl_Ke hK 1 (by decide) (by decide)]
  exact g
theorem rz_141p {b : Bool} {A : Nat → Nat} {h0 : g_H} {d : Nat} {M : xa_M} {post : Option xa_V → xa_M → Prop} {l2 u2 : Int} {sl : Int} (hF : pl_F M) (h2 : 0 ≤ sl ∧ sl ≤ 50) (h48 : M 48 1 = 0) (k : ∀ M1 : xa_M, pl_K M M1 → M1 48 1 = 8 → post (some (0, 0, 0, 1000, pl_all (M 9) (M 10) (M 5) (M 6) (M 4) (M 7) (M 8) (M 1 9) (M 1 10) sl)) M1) : xa_C (xl_I b) A h0 (d + 6) 141 [(2, 34, 0, 0, 0), (2, 1, 0, 0, 0), (0, 0, l2, u2, sl), (2, 48, 0, 0, 0)] M post := by
  refine xa_C_wk ?_
  refine xa_C_arg [(2, 34, 0, 0, 0), (2, 1, 0, 0, 0), (0, 0, 0, 50, sl), (2, 48, 0, 0, 0)] (xa_svR (xa_svR (xa_svI (fun _ _ _ _ => by omega) (xa_svR (xa_sv0))))) ?_
  refine xa_meth (Q0 := (11, 1, false, 0, 0, 4)) (by decide +kernel) ⟨rfl, rfl⟩ (full := s_c_141) rfl rfl ?_
  intro hM hv Q hgo
  have hK0 : pl_K M M := fun _ _ _ _ => rfl
  have hn : 0 ≤ M 1 9 ∧ M 1 9 ≤ 14 := hF.1
  have hm : 0 ≤ M 1 10 ∧ M 1 10 ≤ 16 := hF.2.1
  have s1 := fun k => pl_sm_r (f := pl_nv (pl_P1 (M 9) (M 10) (M 5) (M 6) (M 4) (M 7) (M 8) (M 1 10)) (M 1 9).toNat) (fun v => pl_nv_r (by omega) v) k
  have s2 := fun k => pl_sm_r (f := pl_nv (pl_P2 (M 5) (M 6)) (M 1 9).toNat) (fun v => pl_nv_r (by omega) v) k
  have loop : ∀ (n : Nat) (v cr st fv fw : Int), 0 ≤ v ∧ v ≤ M 1 9 → -1 ≤ fv ∧ fv ≤ 13 → -1 ≤ fw ∧ fw ≤ 13 → cr = pl_sm (pl_nv (pl_P1 (M 9) (M 10) (M 5) (M 6) (M 4) (M 7) (M 8) (M 1 10)) (M 1 9).toNat) v.toNat → st = pl_sm (pl_nv (pl_P2 (M 5) (M 6)) (M 1 9).toNat) v.toNat → 14 - v < (n : Int) → Q 15 [(8, (0, 0, 0, 14, v)), (4, (0, 0, 0, 196, cr)), (5, (0, 0, 0, 196, st)), (6, (0, 0, (-1), 13, fv)), (7, (0, 0, (-1), 13, fw)), (0, (2, 34, 0, 0, 0)), (1, (2, 1, 0, 0, 0)), (2, (0, 0, 0, 50, sl)), (3, (2, 48, 0, 0, 0))] [] M := by
    intro n
    induction n with
    | zero => intro v cr st fv fw i1 f1 f2 h4 h5 hms; omega
    | succ n ih =>
      intro v cr st fv fw i1 f1 f2 h4 h5 hms
      have ev : ((v.toNat : Nat) : Int) = v := Int.toNat_of_nonneg i1.1
      have v1 := s1 v.toNat
      have v2 := s2 v.toNat
      have inner : v < M 1 9 → ∀ (n : Nat) (w cr st fv fw : Int), v + 1 ≤ w ∧ w ≤ M 1 9 → -1 ≤ fv ∧ fv ≤ 13 → -1 ≤ fw ∧ fw ≤ 13 → cr = pl_sm (pl_nv (pl_P1 (M 9) (M 10) (M 5) (M 6) (M 4) (M 7) (M 8) (M 1 10)) (M 1 9).toNat) v.toNat + pl_ct (fun w => v < w ∧ (pl_P1 (M 9) (M 10) (M 5) (M 6) (M 4) (M 7) (M 8) (M 1 10)) v w) w.toNat → st = pl_sm (pl_nv (pl_P2 (M 5) (M 6)) (M 1 9).toNat) v.toNat + pl_ct (fun w => v < w ∧ (pl_P2 (M 5) (M 6)) v w) w.toNat → 14 - w < (n : Int) → Q 30 [(9, (0, 0, 1, 14, w)), (8, (0, 0, 0, 13, v)), (4, (0, 0, 0, 196, cr)), (5, (0, 0, 0, 196, st)), (6, (0, 0, (-1), 13, fv)), (7, (0, 0, (-1), 13, fw)), (0, (2, 34, 0, 0, 0)), (1, (2, 1, 0, 0, 0)), (2, (0, 0, 0, 50, sl)), (3, (2, 48, 0, 0, 0))] [] M := by
        intro hv1 n
        induction n with
        | zero => intro w cr st fv fw j1 f1 f2 h4 h5 hms; omega
        | succ n ih2 =>
          intro w cr st fv fw j1 f1 f2 h4 h5 hms
          have ew : ((w.toNat : Nat) : Int) = w := Int.toNat_of_nonneg (by omega)
          have w1 := pl_ct_r (P := (fun w => v < w ∧ (pl_P1 (M 9) (M 10) (M 5) (M 6) (M 4) (M 7) (M 8) (M 1 10)) v w)) w.toNat
          have w2 := pl_ct_r (P := (fun w => v < w ∧ (pl_P2 (M 5) (M 6)) v w)) w.toNat
          refine hgo.1 53 [15, 30] 30 _ _ _ ?_
          refine And.intro ?_ ?_
          · intro (c1 : (M 1 9) ≤ w)
            show Q 15 [(8, (0, 0, 1, 14, v + 1)), (9, (0, 0, 1, 14, w)), (4, (0, 0, 0, 196, cr)), (5, (0, 0, 0, 196, st)), (6, (0, 0, (-1), 13, fv)), (7, (0, 0, (-1), 13, fw)), (0, (2, 34, 0, 0, 0)), (1, (2, 1, 0, 0, 0)), (2, (0, 0, 0, 50, sl)), (3, (2, 48, 0, 0, 0))] [] M
            have en1 : cr = pl_sm (pl_nv (pl_P1 (M 9) (M 10) (M 5) (M 6) (M 4) (M 7) (M 8) (M 1 10)) (M 1 9).toNat) (v + 1).toNat := by
              rw [show (v + 1).toNat = v.toNat + 1 by omega, pl_sm1, ev, h4, show w = M 1 9 by omega]
              rfl
            have en2 : st = pl_sm (pl_nv (pl_P2 (M 5) (M 6)) (M 1 9).toNat) (v + 1).toNat := by
              rw [show (v + 1).toNat = v.toNat + 1 by omega, pl_sm1, ev, h5, show w = M 1 9 by omega]
              rfl
            refine hgo.2.1 15 _ [(8, (0, 0, 0, 14, v + 1)), (4, (0, 0, 0, 196, cr)), (5, (0, 0, 0, 196, st)), (6, (0, 0, (-1), 13, fv)), (7, (0, 0, (-1), 13, fw)), (0, (2, 34, 0, 0, 0)), (1, (2, 1, 0, 0, 0)), (2, (0, 0, 0, 50, sl)), (3, (2, 48, 0, 0, 0))] _ _ (xa_subI rfl rfl (fun _ _ _ _ => by omega) (xa_subI rfl rfl (fun _ _ _ _ => by omega) (xa_subI rfl rfl (fun _ _ _ _ => by omega) (xa_subI rfl rfl (fun _ _ _ _ => by omega) (xa_subI rfl rfl (fun _ _ _ _ => by omega) (xa_subR rfl (xa_subR rfl (xa_subI rfl rfl (fun _ _ _ _ => by omega) (xa_subR rfl (xa_sub0)))))))))) ?_
            exact ih (v + 1) cr st fv fw (by omega) (by omega) (by omega) en1 en2 (by omega)
          · intro (c1 : w < (M 1 9))
            show xa_C (xl_I b) A h0 _ 142 [(2, 1, 0, 0, 0), (0, 0, 0, 13, v)] M _
            refine cx_142_1 (show 0 ≤ v ∧ v < 14 by omega) ?_
            show xa_C (xl_I b) A h0 _ 142 [(2, 1, 0, 0, 0), (0, 0, 1, 14, w)] M _
            refine cx_142_1 (show 0 ≤ w ∧ w < 14 by omega) ?_
            refine And.intro ?_ ?_
            · intro (c2 : ¬ (M 6 v) = (M 6 w))
              show Q 30 [(9, (0, 0, 2, 15, w + 1)), (5, (0, 0, 0, 196, st + 0)), (10, (0, 0, 0, 0, 0)), (8, (0, 0, 0, 13, v)), (4, (0, 0, 0, 196, cr)), (6, (0, 0, (-1), 13, fv)), (7, (0, 0, (-1), 13, fw)), (0, (2, 34, 0, 0, 0)), (1, (2, 1, 0, 0, 0)), (2, (0, 0, 0, 50, sl)), (3, (2, 48, 0, 0, 0))] [] M
              have en1 : cr = pl_sm (pl_nv (pl_P1 (M 9) (M 10) (M 5) (M 6) (M 4) (M 7) (M 8) (M 1 10)) (M 1 9).toNat) v.toNat + pl_ct (fun w => v < w ∧ (pl_P1 (M 9) (M 10) (M 5) (M 6) (M 4) (M 7) (M 8) (M 1 10)) v w) (w + 1).toNat := by
                rw [show (w + 1).toNat = w.toNat + 1 by omega, pl_ct0 (show ¬ (fun w => v < w ∧ (pl_P1 (M 9) (M 10) (M 5) (M 6) (M 4) (M 7) (M 8) (M 1 10)) v w) ((w.toNat : Nat) : Int) by rw [ew]; exact (fun h => c2 h.2.1)), h4]
              have en2 : st + 0 = pl_sm (pl_nv (pl_P2 (M 5) (M 6)) (M 1 9).toNat) v.toNat + pl_ct (fun w => v < w ∧ (pl_P2 (M 5) (M 6)) v w) (w + 1).toNat := by
                rw [show (w + 1).toNat = w.toNat + 1 by omega, pl_ct0 (show ¬ (fun w => v < w ∧ (pl_P2 (M 5) (M 6)) v w) ((w.toNat : Nat) : Int) by rw [ew]; exact (fun h => c2 h.2.1)), h5]
                omega
              refine hgo.2.1 30 _ [(9, (0, 0, 1, 14, w + 1)), (8, (0, 0, 0, 13, v)), (4, (0, 0, 0, 196, cr)), (5, (0, 0, 0, 196, st + 0)), (6, (0, 0, (-1), 13, fv)), (7, (0, 0, (-1), 13, fw)), (0, (2, 34, 0, 0, 0)), (1, (2, 1, 0, 0, 0)), (2, (0, 0, 0, 50, sl)), (3, (2, 48, 0, 0, 0))] _ _ (xa_subI rfl rfl (fun _ _ _ _ => by omega) (xa_subI rfl rfl (fun _ _ _ _ => by omega) (xa_subI rfl rfl (fun _ _ _ _ => by omega) (xa_subI rfl rfl (fun _ _ _ _ => by omega) (xa_subI rfl rfl (fun _ _ _ _ => by omega) (xa_subI rfl rfl (fun _ _ _ _ => by omega) (xa_subR rfl (xa_subR rfl (xa_subI rfl rfl (fun _ _ _ _ => by omega) (xa_subR rfl (xa_sub0))))))))))) ?_
              exact ih2 (w + 1) cr (st + 0) fv fw (by omega) (by omega) (by omega) en1 en2 (by omega)
            · intro (c2 : (M 6 v) = (M 6 w))
              show xa_C (xl_I b) A h0 _ 143 [(2, 1, 0, 0, 0), (0, 0, 0, 13, v), (0, 0, 1, 14, w)] M _
              refine cx_143p (show 0 ≤ v ∧ v ≤ 13 by omega) (show 0 ≤ w ∧ w ≤ 13 by omega) hF ?_ ?_
              · intro (i3 : pl_cr (M 9) (M 10) (M 5) (M 4) (M 7) (M 8) (M 1 10) v w)
                refine And.intro ?_ ?_
                · intro (c4 : ¬ cr = 0)
                  refine And.intro ?_ ?_
                  · intro (c5 : ¬ cr = 0)
                    show xa_C (xl_I b) A h0 _ 37 [(2, 1, 0, 0, 0), (0, 0, 0, 13, v)] M _
                    refine cx_37_1 (show 0 ≤ v ∧ v < 14 by omega) ?_
                    show xa_C (xl_I b) A h0 _ 37 [(2, 1, 0, 0, 0), (0, 0, 1, 14, w)] M _
                    refine cx_37_1 (show 0 ≤ w ∧ w < 14 by omega) ?_
                    refine And.intro ?_ ?_
                    · intro (c6 : ¬ (M 5 v) = (M 5 w))
                      show Q 30 [(9, (0, 0, 2, 15, w + 1)), (5, (0, 0, 0, 196, st + 0)), (4, (0, 0, 1, 197, cr + 1)), (7, (0, 0, (-1), 13, fw)), (6, (0, 0, (-1), 13, fv)), (10, (0, 0, 1, 1, 1)), (8, (0, 0, 0, 13, v)), (0, (2, 34, 0, 0, 0)), (1, (2, 1, 0, 0, 0)), (2, (0, 0, 0, 50, sl)), (3, (2, 48, 0, 0, 0))] [] M
                      have en1 : cr + 1 = pl_sm (pl_nv (pl_P1 (M 9) (M 10) (M 5) (M 6) (M 4) (M 7) (M 8) (M 1 10)) (M 1 9).toNat) v.toNat + pl_ct (fun w => v < w ∧ (pl_P1 (M 9) (M 10) (M 5) (M 6) (M 4) (M 7) (M 8) (M 1 10)) v w) (w + 1).toNat := by
                        rw [show (w + 1).toNat = w.toNat + 1 by omega, pl_ct1 (show (fun w => v < w ∧ (pl_P1 (M 9) (M 10) (M 5) (M 6) (M 4) (M 7) (M 8) (M 1 10)) v w) ((w.toNat : Nat) : Int) by rw [ew]; exact ⟨by omega, c2, i3⟩), h4]
                        omega
                      have en2 : st + 0 = pl_sm (pl_nv (pl_P2 (M 5) (M 6)) (M 1 9).toNat) v.toNat + pl_ct (fun w => v < w ∧ (pl_P2 (M 5) (M 6)) v w) (w + 1).toNat := by
                        rw [show (w + 1).toNat = w.toNat + 1 by omega, pl_ct0 (show ¬ (fun w => v < w ∧ (pl_P2 (M 5) (M 6)) v w) ((w.toNat : Nat) : Int) by rw [ew]; exact (fun h => c6 h.2.2)), h5]
                        omega
                      refine hgo.2.1 30 _ [(9, (0, 0, 1, 14, w + 1)), (8, (0, 0, 0, 13, v)), (4, (0, 0, 0, 196, cr + 1)), (5, (0, 0, 0, 196, st + 0)), (6, (0, 0, (-1), 13, fv)), (7, (0, 0, (-1), 13, fw)), (0, (2, 34, 0, 0, 0)), (1, (2, 1, 0, 0, 0)), (2, (0, 0, 0, 50, sl)), (3, (2, 48, 0, 0, 0))] _ _ (xa_subI rfl rfl (fun _ _ _ _ => by omega) (xa_subI rfl rfl (fun _ _ _ _ => by omega) (xa_subI rfl rfl (fun _ _ _ _ => by omega) (xa_subI rfl rfl (fun _ _ _ _ => by omega) (xa_subI rfl rfl (fun _ _ _ _ => by omega) (xa_subI rfl rfl (fun _ _ _ _ => by omega) (xa_subR rfl (xa_subR rfl (xa_subI rfl rfl (fun _ _ _ _ => by omega) (xa_subR rfl (xa_sub0))))))))))) ?_
                      exact ih2 (w + 1) (cr + 1) (st + 0) fv fw (by omega) (by omega) (by omega) en1 en2 (by omega)
                    · intro (c6 : (M 5 v) = (M 5 w))
                      show Q 30 [(9, (0, 0, 2, 15, w + 1)), (5, (0, 0, 1, 197, st + 1)), (4, (0, 0, 1, 197, cr + 1)), (7, (0, 0, (-1), 13, fw)), (6, (0, 0, (-1), 13, fv)), (10, (0, 0, 1, 1, 1)), (8, (0, 0, 0, 13, v)), (0, (2, 34, 0, 0, 0)), (1, (2, 1, 0, 0, 0)), (2, (0, 0, 0, 50, sl)), (3, (2, 48, 0, 0, 0))] [] M
                      have en1 : cr + 1 = pl_sm (pl_nv (pl_P1 (M 9) (M 10) (M 5) (M 6) (M 4) (M 7) (M 8) (M 1 10)) (M 1 9).toNat) v.toNat + pl_ct (fun w => v < w ∧ (pl_P1 (M 9) (M 10) (M 5) (M 6) (M 4) (M 7) (M 8) (M 1 10)) v w) (w + 1).toNat := by
                        rw [show (w + 1).toNat = w.toNat + 1 by omega, pl_ct1 (show (fun w => v < w ∧ (pl_P1 (M 9) (M 10) (M 5) (M 6) (M 4) (M 7) (M 8) (M 1 10)) v w) ((w.toNat : Nat) : Int) by rw [ew]; exact ⟨by omega, c2, i3⟩), h4]
                        omega
                      have en2 : st + 1 = pl_sm (pl_nv (pl_P2 (M 5) (M 6)) (M 1 9).toNat) v.toNat + pl_ct (fun w => v < w ∧ (pl_P2 (M 5) (M 6)) v w) (w + 1).toNat := by
                        rw [show (w + 1).toNat = w.toNat + 1 by omega, pl_ct1 (show (fun w => v < w ∧ (pl_P2 (M 5) (M 6)) v w) ((w.toNat : Nat) : Int) by rw [ew]; exact ⟨by omega, c2, c6⟩), h5]
                        omega
                      refine hgo.2.1 30 _ [(9, (0, 0, 1, 14, w + 1)), (8, (0, 0, 0, 13, v)), (4, (0, 0, 0, 196, cr + 1)), (5, (0, 0, 0, 196, st + 1)), (6, (0, 0, (-1), 13, fv)), (7, (0, 0, (-1), 13, fw)), (0, (2, 34, 0, 0, 0)), (1, (2, 1, 0, 0, 0)), (2, (0, 0, 0, 50, sl)), (3, (2, 48, 0, 0, 0))] _ _ (xa_subI rfl rfl (fun _ _ _ _ => by omega) (xa_subI rfl rfl (fun _ _ _ _ => by omega) (xa_subI rfl rfl (fun _ _ _ _ => by omega) (xa_subI rfl rfl (fun _ _ _ _ => by omega) (xa_subI rfl rfl (fun _ _ _ _ => by omega) (xa_subI rfl rfl (fun _ _ _ _ => by omega) (xa_subR rfl (xa_subR rfl (xa_subI rfl rfl (fun _ _ _ _ => by omega) (xa_subR rfl (xa_sub0))))))))))) ?_
                      exact ih2 (w + 1) (cr + 1) (st + 1) fv fw (by omega) (by omega) (by omega) en1 en2 (by omega)
                  · intro (c5 : cr = 0)
                    show xa_C (xl_I b) A h0 _ 37 [(2, 1, 0, 0, 0), (0, 0, 0, 13, v)] M _
                    refine cx_37_1 (show 0 ≤ v ∧ v < 14 by omega) ?_
                    show xa_C (xl_I b) A h0 _ 37 [(2, 1, 0, 0, 0), (0, 0, 1, 14, w)] M _
                    refine cx_37_1 (show 0 ≤ w ∧ w < 14 by omega) ?_
                    refine And.intro ?_ ?_
                    · intro (c7 : ¬ (M 5 v) = (M 5 w))
                      show Q 30 [(9, (0, 0, 2, 15, w + 1)), (5, (0, 0, 0, 196, st + 0)), (4, (0, 0, 1, 197, cr + 1)), (7, (0, 0, 1, 14, w)), (6, (0, 0, (-1), 13, fv)), (10, (0, 0, 1, 1, 1)), (8, (0, 0, 0, 13, v)), (0, (2, 34, 0, 0, 0)), (1, (2, 1, 0, 0, 0)), (2, (0, 0, 0, 50, sl)), (3, (2, 48, 0, 0, 0))] [] M
                      have en1 : cr + 1 = pl_sm (pl_nv (pl_P1 (M 9) (M 10) (M 5) (M 6) (M 4) (M 7) (M 8) (M 1 10)) (M 1 9).toNat) v.toNat + pl_ct (fun w => v < w ∧ (pl_P1 (M 9) (M 10) (M 5) (M 6) (M 4) (M 7) (M 8) (M 1 10)) v w) (w + 1).toNat := by
                        rw [show (w + 1).toNat = w.toNat + 1 by omega, pl_ct1 (show (fun w => v < w ∧ (pl_P1 (M 9) (M 10) (M 5) (M 6) (M 4) (M 7) (M 8) (M 1 10)) v w) ((w.toNat : Nat) : Int) by rw [ew]; exact ⟨by omega, c2, i3⟩), h4]
                        omega
                      have en2 : st + 0 = pl_sm (pl_nv (pl_P2 (M 5) (M 6)) (M 1 9).toNat) v.toNat + pl_ct (fun w => v < w ∧ (pl_P2 (M 5) (M 6)) v w) (w + 1).toNat := by
                        rw [show (w + 1).toNat = w.toNat + 1 by omega, pl_ct0 (show ¬ (fun w => v < w ∧ (pl_P2 (M 5) (M 6)) v w) ((w.toNat : Nat) : Int) by rw [ew]; exact (fun h => c7 h.2.2)), h5]
                        omega
                      refine hgo.2.1 30 _ [(9, (0, 0, 1, 14, w + 1)), (8, (0, 0, 0, 13, v)), (4, (0, 0, 0, 196, cr + 1)), (5, (0, 0, 0, 196, st + 0)), (6, (0, 0, (-1), 13, fv)), (7, (0, 0, (-1), 13, w)), (0, (2, 34, 0, 0, 0)), (1, (2, 1, 0, 0, 0)), (2, (0, 0, 0, 50, sl)), (3, (2, 48, 0, 0, 0))] _ _ (xa_subI rfl rfl (fun _ _ _ _ => by omega) (xa_subI rfl rfl (fun _ _ _ _ => by omega) (xa_subI rfl rfl (fun _ _ _ _ => by omega) (xa_subI rfl rfl (fun _ _ _ _ => by omega) (xa_subI rfl rfl (fun _ _ _ _ => by omega) (xa_subI rfl rfl (fun _ _ _ _ => by omega) (xa_subR rfl (xa_subR rfl (xa_subI rfl rfl (fun _ _ _ _ => by omega) (xa_subR rfl (xa_sub0))))))))))) ?_
                      exact ih2 (w + 1) (cr + 1) (st + 0) fv w (by omega) (by omega) (by omega) en1 en2 (by omega)
                    · intro (c7 : (M 5 v) = (M 5 w))
                      show Q 30 [(9, (0, 0, 2, 15, w + 1)), (5, (0, 0, 1, 197, st + 1)), (4, (0, 0, 1, 197, cr + 1)), (7, (0, 0, 1, 14, w)), (6, (0, 0, (-1), 13, fv)), (10, (0, 0, 1, 1, 1)), (8, (0, 0, 0, 13, v)), (0, (2, 34, 0, 0, 0)), (1, (2, 1, 0, 0, 0)), (2, (0, 0, 0, 50, sl)), (3, (2, 48, 0, 0, 0))] [] M
                      have en1 : cr + 1 = pl_sm (pl_nv (pl_P1 (M 9) (M 10) (M 5) (M 6) (M 4) (M 7) (M 8) (M 1 10)) (M 1 9).toNat) v.toNat + pl_ct (fun w => v < w ∧ (pl_P1 (M 9) (M 10) (M 5) (M 6) (M 4) (M 7) (M 8) (M 1 10)) v w) (w + 1).toNat := by
                        rw [show (w + 1).toNat = w.toNat + 1 by omega, pl_ct1 (show (fun w => v < w ∧ (pl_P1 (M 9) (M 10) (M 5) (M 6) (M 4) (M 7) (M 8) (M 1 10)) v w) ((w.toNat : Nat) : Int) by rw [ew]; exact ⟨by omega, c2, i3⟩), h4]
                        omega
                      have en2 : st + 1 = pl_sm (pl_nv (pl_P2 (M 5) (M 6)) (M 1 9).toNat) v.toNat + pl_ct (fun w => v < w ∧ (pl_P2 (M 5) (M 6)) v w) (w + 1).toNat := by
                        rw [show (w + 1).toNat = w.toNat + 1 by omega, pl_ct1 (show (fun w => v < w ∧ (pl_P2 (M 5) (M 6)) v w) ((w.toNat : Nat) : Int) by rw [ew]; exact ⟨by omega, c2, c7⟩), h5]
                        omega
                      refine hgo.2.1 30 _ [(9, (0, 0, 1, 14, w + 1)), (8, (0, 0, 0, 13, v)), (4, (0, 0, 0, 196, cr + 1)), (5, (0, 0, 0, 196, st + 1)), (6, (0, 0, (-1), 13, fv)), (7, (0, 0, (-1), 13, w)), (0, (2, 34, 0, 0, 0)), (1, (2, 1, 0, 0, 0)), (2, (0, 0, 0, 50, sl)), (3, (2, 48, 0, 0, 0))] _ _ (xa_subI rfl rfl (fun _ _ _ _ => by omega) (xa_subI rfl rfl (fun _ _ _ _ => by omega) (xa_subI rfl rfl (fun _ _ _ _ => by omega) (xa_subI rfl rfl (fun _ _ _ _ => by omega) (xa_subI rfl rfl (fun _ _ _ _ => by omega) (xa_subI rfl rfl (fun _ _ _ _ => by omega) (xa_subR rfl (xa_subR rfl (xa_subI rfl rfl (fun _ _ _ _ => by omega) (xa_subR rfl (xa_sub0))))))))))) ?_
                      exact ih2 (w + 1) (cr + 1) (st + 1) fv w (by omega) (by omega) (by omega) en1 en2 (by omega)
                · intro (c4 : cr = 0)
                  refine And.intro ?_ ?_
                  · intro (c8 : ¬ cr = 0)
                    show xa_C (xl_I b) A h0 _ 37 [(2, 1, 0, 0, 0), (0, 0, 0, 13, v)] M _
                    refine cx_37_1 (show 0 ≤ v ∧ v < 14 by omega) ?_
                    show xa_C (xl_I b) A h0 _ 37 [(2, 1, 0, 0, 0), (0, 0, 1, 14, w)] M _
                    refine cx_37_1 (show 0 ≤ w ∧ w < 14 by omega) ?_
                    refine And.intro ?_ ?_
                    · intro (c9 : ¬ (M 5 v) = (M 5 w))
                      show Q 30 [(9, (0, 0, 2, 15, w + 1)), (5, (0, 0, 0, 196, st + 0)), (4, (0, 0, 1, 197, cr + 1)), (7, (0, 0, (-1), 13, fw)), (6, (0, 0, 0, 13, v)), (10, (0, 0, 1, 1, 1)), (8, (0, 0, 0, 13, v)), (0, (2, 34, 0, 0, 0)), (1, (2, 1, 0, 0, 0)), (2, (0, 0, 0, 50, sl)), (3, (2, 48, 0, 0, 0))] [] M
                      have en1 : cr + 1 = pl_sm (pl_nv (pl_P1 (M 9) (M 10) (M 5) (M 6) (M 4) (M 7) (M 8) (M 1 10)) (M 1 9).toNat) v.toNat + pl_ct (fun w => v < w ∧ (pl_P1 (M 9) (M 10) (M 5) (M 6) (M 4) (M 7) (M 8) (M 1 10)) v w) (w + 1).toNat := by
                        rw [show (w + 1).toNat = w.toNat + 1 by omega, pl_ct1 (show (fun w => v < w ∧ (pl_P1 (M 9) (M 10) (M 5) (M 6) (M 4) (M 7) (M 8) (M 1 10)) v w) ((w.toNat : Nat) : Int) by rw [ew]; exact ⟨by omega, c2, i3⟩), h4]
                        omega
                      have en2 : st + 0 = pl_sm (pl_nv (pl_P2 (M 5) (M 6)) (M 1 9).toNat) v.toNat + pl_ct (fun w => v < w ∧ (pl_P2 (M 5) (M 6)) v w) (w + 1).toNat := by
                        rw [show (w + 1).toNat = w.toNat + 1 by omega, pl_ct0 (show ¬ (fun w => v < w ∧ (pl_P2 (M 5) (M 6)) v w) ((w.toNat : Nat) : Int) by rw [ew]; exact (fun h => c9 h.2.2)), h5]
                        omega
                      refine hgo.2.1 30 _ [(9, (0, 0, 1, 14, w + 1)), (8, (0, 0, 0, 13, v)), (4, (0, 0, 0, 196, cr + 1)), (5, (0, 0, 0, 196, st + 0)), (6, (0, 0, (-1), 13, v)), (7, (0, 0, (-1), 13, fw)), (0, (2, 34, 0, 0, 0)), (1, (2, 1, 0, 0, 0)), (2, (0, 0, 0, 50, sl)), (3, (2, 48, 0, 0, 0))] _ _ (xa_subI rfl rfl (fun _ _ _ _ => by omega) (xa_subI rfl rfl (fun _ _ _ _ => by omega) (xa_subI rfl rfl (fun _ _ _ _ => by omega) (xa_subI rfl rfl (fun _ _ _ _ => by omega) (xa_subI rfl rfl (fun _ _ _ _ => by omega) (xa_subI rfl rfl (fun _ _ _ _ => by omega) (xa_subR rfl (xa_subR rfl (xa_subI rfl rfl (fun _ _ _ _ => by omega) (xa_subR rfl (xa_sub0))))))))))) ?_
                      exact ih2 (w + 1) (cr + 1) (st + 0) v fw (by omega) (by omega) (by omega) en1 en2 (by omega)
                    · intro (c9 : (M 5 v) = (M 5 w))
                      show Q 30 [(9, (0, 0, 2, 15, w + 1)), (5, (0, 0, 1, 197, st + 1)), (4, (0, 0, 1, 197, cr + 1)), (7, (0, 0, (-1), 13, fw)), (6, (0, 0, 0, 13, v)), (10, (0, 0, 1, 1, 1)), (8, (0, 0, 0, 13, v)), (0, (2, 34, 0, 0, 0)), (1, (2, 1, 0, 0, 0)), (2, (0, 0, 0, 50, sl)), (3, (2, 48, 0, 0, 0))] [] M
                      have en1 : cr + 1 = pl_sm (pl_nv (pl_P1 (M 9) (M 10) (M 5) (M 6) (M 4) (M 7) (M 8) (M 1 10)) (M 1 9).toNat) v.toNat + pl_ct (fun w => v < w ∧ (pl_P1 (M 9) (M 10) (M 5) (M 6) (M 4) (M 7) (M 8) (M 1 10)) v w) (w + 1).toNat := by
                        rw [show (w + 1).toNat = w.toNat + 1 by omega, pl_ct1 (show (fun w => v < w ∧ (pl_P1 (M 9) (M 10) (M 5) (M 6) (M 4) (M 7) (M 8) (M 1 10)) v w) ((w.toNat : Nat) : Int) by rw [ew]; exact ⟨by omega, c2, i3⟩), h4]
                        omega
                      have en2 : st + 1 = pl_sm (pl_nv (pl_P2 (M 5) (M 6)) (M 1 9).toNat) v.toNat + pl_ct (fun w => v < w ∧ (pl_P2 (M 5) (M 6)) v w) (w + 1).toNat := by
                        rw [show (w + 1).toNat = w.toNat + 1 by omega, pl_ct1 (show (fun w => v < w ∧ (pl_P2 (M 5) (M 6)) v w) ((w.toNat : Nat) : Int) by rw [ew]; exact ⟨by omega, c2, c9⟩), h5]
                        omega
                      refine hgo.2.1 30 _ [(9, (0, 0, 1, 14, w + 1)), (8, (0, 0, 0, 13, v)), (4, (0, 0, 0, 196, cr + 1)), (5, (0, 0, 0, 196, st + 1)), (6, (0, 0, (-1), 13, v)), (7, (0, 0, (-1), 13, fw)), (0, (2, 34, 0, 0, 0)), (1, (2, 1, 0, 0, 0)), (2, (0, 0, 0, 50, sl)), (3, (2, 48, 0, 0, 0))] _ _ (xa_subI rfl rfl (fun _ _ _ _ => by omega) (xa_subI rfl rfl (fun _ _ _ _ => by omega) (xa_subI rfl rfl (fun _ _ _ _ => by omega) (xa_subI rfl rfl (fun _ _ _ _ => by omega) (xa_subI rfl rfl (fun _ _ _ _ => by omega) (xa_subI rfl rfl (fun _ _ _ _ => by omega) (xa_subR rfl (xa_subR rfl (xa_subI rfl rfl (fun _ _ _ _ => by omega) (xa_subR rfl (xa_sub0))))))))))) ?_
                      exact ih2 (w + 1) (cr + 1) (st + 1) v fw (by omega) (by omega) (by omega) en1 en2 (by omega)
                  · intro (c8 : cr = 0)
                    show xa_C (xl_I b) A h0 _ 37 [(2, 1, 0, 0, 0), (0, 0, 0, 13, v)] M _
                    refine cx_37_1 (show 0 ≤ v ∧ v < 14 by omega) ?_
                    show xa_C (xl_I b) A h0 _ 37 [(2, 1, 0, 0, 0), (0, 0, 1, 14, w)] M _
                    refine cx_37_1 (show 0 ≤ w ∧ w < 14 by omega) ?_
                    refine And.intro ?_ ?_
                    · intro (c10 : ¬ (M 5 v) = (M 5 w))
                      show Q 30 [(9, (0, 0, 2, 15, w + 1)), (5, (0, 0, 0, 196, st + 0)), (4, (0, 0, 1, 197, cr + 1)), (7, (0, 0, 1, 14, w)), (6, (0, 0, 0, 13, v)), (10, (0, 0, 1, 1, 1)), (8, (0, 0, 0, 13, v)), (0, (2, 34, 0, 0, 0)), (1, (2, 1, 0, 0, 0)), (2, (0, 0, 0, 50, sl)), (3, (2, 48, 0, 0, 0))] [] M
                      have en1 : cr + 1 = pl_sm (pl_nv (pl_P1 (M 9) (M 10) (M 5) (M 6) (M 4) (M 7) (M 8) (M 1 10)) (M 1 9).toNat) v.toNat + pl_ct (fun w => v < w ∧ (pl_P1 (M 9) (M 10) (M 5) (M 6) (M 4) (M 7) (M 8) (M 1 10)) v w) (w + 1).toNat := by
                        rw [show (w + 1).toNat = w.toNat + 1 by omega, pl_ct1 (show (fun w => v < w ∧ (pl_P1 (M 9) (M 10) (M 5) (M 6) (M 4) (M 7) (M 8) (M 1 10)) v w) ((w.toNat : Nat) : Int) by rw [ew]; exact ⟨by omega, c2, i3⟩), h4]
                        omega
                      have en2 : st + 0 = pl_sm (pl_nv (pl_P2 (M 5) (M 6)) (M 1 9).toNat) v.toNat + pl_ct (fun w => v < w ∧ (pl_P2 (M 5) (M 6)) v w) (w + 1).toNat := by
                        rw [show (w + 1).toNat = w.toNat + 1 by omega, pl_ct0 (show ¬ (fun w => v < w ∧ (pl_P2 (M 5) (M 6)) v w) ((w.toNat : Nat) : Int) by rw [ew]; exact (fun h => c10 h.2.2)), h5]
                        omega
                      refine hgo.2.1 30 _ [(9, (0, 0, 1, 14, w + 1)), (8, (0, 0, 0, 13, v)), (4, (0, 0, 0, 196, cr + 1)), (5, (0, 0, 0, 196, st + 0)), (6, (0, 0, (-1), 13, v)), (7, (0, 0, (-1), 13, w)), (0, (2, 34, 0, 0, 0)), (1, (2, 1, 0, 0, 0)), (2, (0, 0, 0, 50, sl)), (3, (2, 48, 0, 0, 0))] _ _ (xa_subI rfl rfl (fun _ _ _ _ => by omega) (xa_subI rfl rfl (fun _ _ _ _ => by omega) (xa_subI rfl rfl (fun _ _ _ _ => by omega) (xa_subI rfl rfl (fun _ _ _ _ => by omega) (xa_subI rfl rfl (fun _ _ _ _ => by omega) (xa_subI rfl rfl (fun _ _ _ _ => by omega) (xa_subR rfl (xa_subR rfl (xa_subI rfl rfl (fun _ _ _ _ => by omega) (xa_subR rfl (xa_sub0))))))))))) ?_
                      exact ih2 (w + 1) (cr + 1) (st + 0) v w (by omega) (by omega) (by omega) en1 en2 (by omega)
                    · intro (c10 : (M 5 v) = (M 5 w))
                      show Q 30 [(9, (0, 0, 2, 15, w + 1)), (5, (0, 0, 1, 197, st + 1)), (4, (0, 0, 1, 197, cr + 1)), (7, (0, 0, 1, 14, w)), (6, (0, 0, 0, 13, v)), (10, (0, 0, 1, 1, 1)), (8, (0, 0, 0, 13, v)), (0, (2, 34, 0, 0, 0)), (1, (2, 1, 0, 0, 0)), (2, (0, 0, 0, 50, sl)), (3, (2, 48, 0, 0, 0))] [] M
                      have en1 : cr + 1 = pl_sm (pl_nv (pl_P1 (M 9) (M 10) (M 5) (M 6) (M 4) (M 7) (M 8) (M 1 10)) (M 1 9).toNat) v.toNat + pl_ct (fun w => v < w ∧ (pl_P1 (M 9) (M 10) (M 5) (M 6) (M 4) (M 7) (M 8) (M 1 10)) v w) (w + 1).toNat := by
                        rw [show (w + 1).toNat = w.toNat + 1 by omega, pl_ct1 (show (fun w => v < w ∧ (pl_P1 (M 9) (M 10) (M 5) (M 6) (M 4) (M 7) (M 8) (M 1 10)) v w) ((w.toNat : Nat) : Int) by rw [ew]; exact ⟨by omega, c2, i3⟩), h4]
                        omega
                      have en2 : st + 1 = pl_sm (pl_nv (pl_P2 (M 5) (M 6)) (M 1 9).toNat) v.toNat + pl_ct (fun w => v < w ∧ (pl_P2 (M 5) (M 6)) v w) (w + 1).toNat := by
                        rw [show (w + 1).toNat = w.toNat + 1 by omega, pl_ct1 (show (fun w => v < w ∧ (pl_P2 (M 5) (M 6)) v w) ((w.toNat : Nat) : Int) by rw [ew]; exact ⟨by omega, c2, c10⟩), h5]
                        omega
                      refine hgo.2.1 30 _ [(9, (0, 0, 1, 14, w + 1)), (8, (0, 0, 0, 13, v)), (4, (0, 0, 0, 196, cr + 1)), (5, (0, 0, 0, 196, st + 1)), (6, (0, 0, (-1), 13, v)), (7, (0, 0, (-1), 13, w)), (0, (2, 34, 0, 0, 0)), (1, (2, 1, 0, 0, 0)), (2, (0, 0, 0, 50, sl)), (3, (2, 48, 0, 0, 0))] _ _ (xa_subI rfl rfl (fun _ _ _ _ => by omega) (xa_subI rfl rfl (fun _ _ _ _ => by omega) (xa_subI rfl rfl (fun _ _ _ _ => by omega) (xa_subI rfl rfl (fun _ _ _ _ => by omega) (xa_subI rfl rfl (fun _ _ _ _ => by omega) (xa_subI rfl rfl (fun _ _ _ _ => by omega) (xa_subR rfl (xa_subR rfl (xa_subI rfl rfl (fun _ _ _ _ => by omega) (xa_subR rfl (xa_sub0))))))))))) ?_
                      exact ih2 (w + 1) (cr + 1) (st + 1) v w (by omega) (by omega) (by omega) en1 en2 (by omega)
              · intro (i11 : ¬ pl_cr (M 9) (M 10) (M 5) (M 4) (M 7) (M 8) (M 1 10) v w)
                show xa_C (xl_I b) A h0 _ 37 [(2, 1, 0, 0, 0), (0, 0, 0, 13, v)] M _
                refine cx_37_1 (show 0 ≤ v ∧ v < 14 by omega) ?_
                show xa_C (xl_I b) A h0 _ 37 [(2, 1, 0, 0, 0), (0, 0, 1, 14, w)] M _
                refine cx_37_1 (show 0 ≤ w ∧ w < 14 by omega) ?_
                refine And.intro ?_ ?_
                · intro (c12 : ¬ (M 5 v) = (M 5 w))
                  show Q 30 [(9, (0, 0, 2, 15, w + 1)), (5, (0, 0, 0, 196, st + 0)), (10, (0, 0, 1, 1, 1)), (8, (0, 0, 0, 13, v)), (4, (0, 0, 0, 196, cr)), (6, (0, 0, (-1), 13, fv)), (7, (0, 0, (-1), 13, fw)), (0, (2, 34, 0, 0, 0)), (1, (2, 1, 0, 0, 0)), (2, (0, 0, 0, 50, sl)), (3, (2, 48, 0, 0, 0))] [] M
                  have en1 : cr = pl_sm (pl_nv (pl_P1 (M 9) (M 10) (M 5) (M 6) (M 4) (M 7) (M 8) (M 1 10)) (M 1 9).toNat) v.toNat + pl_ct (fun w => v < w ∧ (pl_P1 (M 9) (M 10) (M 5) (M 6) (M 4) (M 7) (M 8) (M 1 10)) v w) (w + 1).toNat := by
                    rw [show (w + 1).toNat = w.toNat + 1 by omega, pl_ct0 (show ¬ (fun w => v < w ∧ (pl_P1 (M 9) (M 10) (M 5) (M 6) (M 4) (M 7) (M 8) (M 1 10)) v w) ((w.toNat : Nat) : Int) by rw [ew]; exact (fun h => i11 h.2.2)), h4]
                  have en2 : st + 0 = pl_sm (pl_nv (pl_P2 (M 5) (M 6)) (M 1 9).toNat) v.toNat + pl_ct (fun w => v < w ∧ (pl_P2 (M 5) (M 6)) v w) (w + 1).toNat := by
                    rw [show (w + 1).toNat = w.toNat + 1 by omega, pl_ct0 (show ¬ (fun w => v < w ∧ (pl_P2 (M 5) (M 6)) v w) ((w.toNat : Nat) : Int) by rw [ew]; exact (fun h => c12 h.2.2)), h5]
                    omega
                  refine hgo.2.1 30 _ [(9, (0, 0, 1, 14, w + 1)), (8, (0, 0, 0, 13, v)), (4, (0, 0, 0, 196, cr)), (5, (0, 0, 0, 196, st + 0)), (6, (0, 0, (-1), 13, fv)), (7, (0, 0, (-1), 13, fw)), (0, (2, 34, 0, 0, 0)), (1, (2, 1, 0, 0, 0)), (2, (0, 0, 0, 50, sl)), (3, (2, 48, 0, 0, 0))] _ _ (xa_subI rfl rfl (fun _ _ _ _ => by omega) (xa_subI rfl rfl (fun _ _ _ _ => by omega) (xa_subI rfl rfl (fun _ _ _ _ => by omega) (xa_subI rfl rfl (fun _ _ _ _ => by omega) (xa_subI rfl rfl (fun _ _ _ _ => by omega) (xa_subI rfl rfl (fun _ _ _ _ => by omega) (xa_subR rfl (xa_subR rfl (xa_subI rfl rfl (fun _ _ _ _ => by omega) (xa_subR rfl (xa_sub0))))))))))) ?_
                  exact ih2 (w + 1) cr (st + 0) fv fw (by omega) (by omega) (by omega) en1 en2 (by omega)
                · intro (c12 : (M 5 v) = (M 5 w))
                  show Q 30 [(9, (0, 0, 2, 15, w + 1)), (5, (0, 0, 1, 197, st + 1)), (10, (0, 0, 1, 1, 1)), (8, (0, 0, 0, 13, v)), (4, (0, 0, 0, 196, cr)), (6, (0, 0, (-1), 13, fv)), (7, (0, 0, (-1), 13, fw)), (0, (2, 34, 0, 0, 0)), (1, (2, 1, 0, 0, 0)), (2, (0, 0, 0, 50, sl)), (3, (2, 48, 0, 0, 0))] [] M
                  have en1 : cr = pl_sm (pl_nv (pl_P1 (M 9) (M 10) (M 5) (M 6) (M 4) (M 7) (M 8) (M 1 10)) (M 1 9).toNat) v.toNat + pl_ct (fun w => v < w ∧ (pl_P1 (M 9) (M 10) (M 5) (M 6) (M 4) (M 7) (M 8) (M 1 10)) v w) (w + 1).toNat := by
                    rw [show (w + 1).toNat = w.toNat + 1 by omega, pl_ct0 (show ¬ (fun w => v < w ∧ (pl_P1 (M 9) (M 10) (M 5) (M 6) (M 4) (M 7) (M 8) (M 1 10)) v w) ((w.toNat : Nat) : Int) by rw [ew]; exact (fun h => i11 h.2.2)), h4]
                  have en2 : st + 1 = pl_sm (pl_nv (pl_P2 (M 5) (M 6)) (M 1 9).toNat) v.toNat + pl_ct (fun w => v < w ∧ (pl_P2 (M 5) (M 6)) v w) (w + 1).toNat := by
                    rw [show (w + 1).toNat = w.toNat + 1 by omega, pl_ct1 (show (fun w => v < w ∧ (pl_P2 (M 5) (M 6)) v w) ((w.toNat : Nat) : Int) by rw [ew]; exact ⟨by omega, c2, c12⟩), h5]
                    omega
                  refine hgo.2.1 30 _ [(9, (0, 0, 1, 14, w + 1)), (8, (0, 0, 0, 13, v)), (4, (0, 0, 0, 196, cr)), (5, (0, 0, 0, 196, st + 1)), (6, (0, 0, (-1), 13, fv)), (7, (0, 0, (-1), 13, fw)), (0, (2, 34, 0, 0, 0)), (1, (2, 1, 0, 0, 0)), (2, (0, 0, 0, 50, sl)), (3, (2, 48, 0, 0, 0))] _ _ (xa_subI rfl rfl (fun _ _ _ _ => by omega) (xa_subI rfl rfl (fun _ _ _ _ => by omega) (xa_subI rfl rfl (fun _ _ _ _ => by omega) (xa_subI rfl rfl (fun _ _ _ _ => by omega) (xa_subI rfl rfl (fun _ _ _ _ => by omega) (xa_subI rfl rfl (fun _ _ _ _ => by omega) (xa_subR rfl (xa_subR rfl (xa_subI rfl rfl (fun _ _ _ _ => by omega) (xa_subR rfl (xa_sub0))))))))))) ?_
                  exact ih2 (w + 1) cr (st + 1) fv fw (by omega) (by omega) (by omega) en1 en2 (by omega)
      refine hgo.1 36 [15, 30] 15 _ _ _ ?_
      refine And.intro ?_ ?_
      · intro (c1 : (M 1 9) ≤ v)
        show xa_C (xl_I b) A h0 _ 60 [(2, 48, 0, 0, 0), (1, 0, 0, 196, cr)] M _
        refine rz_60k (N := M) (c := 0) (e := 0 + 1) (by first | assumption | exact hK0) h48 (by omega) ?_
        intro M106 (i2 : pl_K M M106) (i3 : M106 48 1 = 0 + 1)
        show xa_C (xl_I b) A h0 _ 60 [(2, 48, 0, 0, 0), (1, 0, (-1), 13, fv)] M106 _
        refine rz_60k (N := M) (c := 0 + 1) (e := 0 + 2) (by first | assumption | exact hK0) i3 (by omega) ?_
        intro M107 (i4 : pl_K M M107) (i5 : M107 48 1 = 0 + 2)
        show xa_C (xl_I b) A h0 _ 60 [(2, 48, 0, 0, 0), (1, 0, (-1), 13, fw)] M107 _
        refine rz_60k (N := M) (c := 0 + 2) (e := 0 + 3) (by first | assumption | exact hK0) i5 (by omega) ?_
        intro M108 (i6 : pl_K M M108) (i7 : M108 48 1 = 0 + 3)
        show xa_C (xl_I b) A h0 _ 145 [(2, 1, 0, 0, 0), (0, 0, (-1), (-1), (-1)), (2, 48, 0, 0, 0)] M108 _
        refine rz_145aN (N := M) (c := 0 + 3) (e := 0 + 5) (by first | assumption | exact hK0) hF i7 (by omega) ?_
        intro M109 (i8 : pl_K M M109) (i9 : M109 48 1 = 0 + 5)
        show xa_C (xl_I b) A h0 _ 145 [(2, 1, 0, 0, 0), (0, 0, 0, 50, sl), (2, 48, 0, 0, 0)] M109 _
        refine rz_145bN (N := M) (c := 0 + 5) (e := 0 + 7) (by first | assumption | exact hK0) hF h2 i9 (by omega) ?_
        intro M110 (i10 : pl_K M M110) (i11 : M110 48 1 = 0 + 7)
        show xa_C (xl_I b) A h0 _ 148 [(0, 0, 0, 196, st), (2, 48, 0, 0, 0)] M110 _
        refine rz_148kN (N := M) (c := 0 + 7) (e := 0 + 8) (by first | assumption | exact hK0) (show 0 ≤ st ∧ st ≤ 196 by omega) i11 (by omega) ?_
        intro M111 (i12 : pl_K M M111) (i13 : M111 48 1 = 0 + 8)
        show xa_wk post (some (0, 0, 0, 424, ((cr + (pl_ct (pl_sk (M 6) (M 7) (M 8)) (M 1 10).toNat)) + (pl_ct (pl_of (M 9) (M 10) (M 5) (M 4) (M 7) (M 8) sl) (M 1 10).toNat)) + st)) M111
        have ev : v = M 1 9 := by omega
        rw [ev] at h4 h5
        have q1 := pl_ct_r (P := (pl_sk (M 6) (M 7) (M 8))) (M 1 10).toNat
        have q2 := pl_ct_r (P := (pl_of (M 9) (M 10) (M 5) (M 4) (M 7) (M 8) sl)) (M 1 10).toNat
        have ex : ((cr + (pl_ct (pl_sk (M 6) (M 7) (M 8)) (M 1 10).toNat)) + (pl_ct (pl_of (M 9) (M 10) (M 5) (M 4) (M 7) (M 8) sl) (M 1 10).toNat)) + st = pl_all (M 9) (M 10) (M 5) (M 6) (M 4) (M 7) (M 8) (M 1 9) (M 1 10) sl := by
          unfold pl_all pl_pa
          rw [← h4, ← h5]
        exact xa_wkI _ ex (fun _ _ => by omega) (k _ i12 i13)
      · intro (c1 : v < (M 1 9))
        show Q 30 [(9, (0, 0, 1, 15, v + 1)), (8, (0, 0, 0, 14, v)), (4, (0, 0, 0, 196, cr)), (5, (0, 0, 0, 196, st)), (6, (0, 0, (-1), 13, fv)), (7, (0, 0, (-1), 13, fw)), (0, (2, 34, 0, 0, 0)), (1, (2, 1, 0, 0, 0)), (2, (0, 0, 0, 50, sl)), (3, (2, 48, 0, 0, 0))] [] M
        have hz1 : pl_ct (fun w => v < w ∧ (pl_P1 (M 9) (M 10) (M 5) (M 6) (M 4) (M 7) (M 8) (M 1 10)) v w) (v + 1).toNat = 0 := pl_ct_z _ (fun k hk h => by have := h.1; omega)
        have hz2 : pl_ct (fun w => v < w ∧ (pl_P2 (M 5) (M 6)) v w) (v + 1).toNat = 0 := pl_ct_z _ (fun k hk h => by have := h.1; omega)
        refine hgo.2.1 30 _ [(9, (0, 0, 1, 14, v + 1)), (8, (0, 0, 0, 13, v)), (4, (0, 0, 0, 196, cr)), (5, (0, 0, 0, 196, st)), (6, (0, 0, (-1), 13, fv)), (7, (0, 0, (-1), 13, fw)), (0, (2, 34, 0, 0, 0)), (1, (2, 1, 0, 0, 0)), (2, (0, 0, 0, 50, sl)), (3, (2, 48, 0, 0, 0))] _ _ (xa_subI rfl rfl (fun _ _ _ _ => by omega) (xa_subI rfl rfl (fun _ _ _ _ => by omega) (xa_subI rfl rfl (fun _ _ _ _ => by omega) (xa_subI rfl rfl (fun _ _ _ _ => by omega) (xa_subI rfl rfl (fun _ _ _ _ => by omega) (xa_subI rfl rfl (fun _ _ _ _ => by omega) (xa_subR rfl (xa_subR rfl (xa_subI rfl rfl (fun _ _ _ _ => by omega) (xa_subR rfl (xa_sub0))))))))))) ?_
        exact inner (by omega) 15 (v + 1) cr st fv fw (by omega) (by omega) (by omega) (by rw [hz1, ← h4]; omega) (by rw [hz2, ← h5]; omega) (by omega)
  refine hgo.1 15 [15, 30] 0 _ _ _ ?_
  show Q 15 [(8, (0, 0, 0, 0, 0)), (7, (0, 0, (-1), (-1), (-1))), (6, (0, 0, (-1), (-1), (-1))), (5, (0, 0, 0, 0, 0)), (4, (0, 0, 0, 0, 0)), (0, (2, 34, 0, 0, 0)), (1, (2, 1, 0, 0, 0)), (2, (0, 0, 0, 50, sl)), (3, (2, 48, 0, 0, 0))] [] M
  refine hgo.2.1 15 _ [(8, (0, 0, 0, 14, 0)), (4, (0, 0, 0, 196, 0)), (5, (0, 0, 0, 196, 0)), (6, (0, 0, (-1), 13, (-1))), (7, (0, 0, (-1), 13, (-1))), (0, (2, 34, 0, 0, 0)), (1, (2, 1, 0, 0, 0)), (2, (0, 0, 0, 50, sl)), (3, (2, 48, 0, 0, 0))] _ _ (xa_subI rfl rfl (fun _ _ _ _ => by omega) (xa_subI rfl rfl (fun _ _ _ _ => by omega) (xa_subI rfl rfl (fun _ _ _ _ => by omega) (xa_subI rfl rfl (fun _ _ _ _ => by omega) (xa_subI rfl rfl (fun _ _ _ _ => by omega) (xa_subR rfl (xa_subR rfl (xa_subI rfl rfl (fun _ _ _ _ => by omega) (xa_subR rfl (xa_sub0)))))))))) ?_
  exact loop 15 0 0 0 (-1) (-1) (by omega) (by omega) (by omega) rfl rfl (by omega)
theorem rz_141pN {b : Bool} {A : Nat → Nat} {h0 : g_H} {d : Nat} {M : xa_M} {post : Option xa_V → xa_M → Prop} {l2 u2 sl : Int} {N : xa_M} (hK : pl_K N M) (hF : pl_F N) (h2 : 0 ≤ sl ∧ sl ≤ 50) (h48 : M 48 1 = 0) (k : ∀ M1 : xa_M, pl_K N M1 → M1 48 1 = 8 → post (some (0, 0, 0, 1000, pl_all (N 9) (N 10) (N 5) (N 6) (N 4) (N 7) (N 8) (N 1 9) (N 1 10) sl)) M1) : xa_C (xl_I b) A h0 (d + 6) 141 [(2, 34, 0, 0, 0), (2, 1, 0, 0, 0), (0, 0, l2, u2, sl), (2, 48, 0, 0, 0)] M post := by
  refine rz_141p (pl_F_k hK hF) h2 h48 (fun M1 g1 g2 => ?_)
  have g := k M1 (fun q j h1 h2 => (g1 q j h1 h2).trans (hK q j h1 h2)) g2
  rw [pl_Ke hK 9 (by decide) (by decide), pl_Ke hK 10 (by decide) (by decide), pl_Ke hK 5 (by decide) (by decide), pl_Ke hK 6 (by decide) (by decide), pl_Ke hK 4 (by decide) (by decide), pl_Ke hK 7 (by decide) (by decide), pl_Ke hK 8 (by decide) (by decide), pl_Ke hK 1 (by decide) (by decide)]
  exact g
theorem rx_140 {b : Bool} {A : Nat → Nat} {h0 : g_H} {d : Nat} {M : xa_M} {post : Option xa_V → xa_M → Prop} {l1 u1 sl : Int} (hF : pl_F M) (k1 : (0 ≤ sl ∧ sl ≤ 50) → ∀ M1 : xa_M, pl_K M M1 → M1 48 1 = 8 → post (some (0, 0, 0, 1000, pl_all (M 9) (M 10) (M 5) (M 6) (M 4) (M 7) (M 8) (M 1 9) (M 1 10) sl)) M1) (k0 : ¬ (0 ≤ sl ∧ sl ≤ 50) → post (some (0, 0, (-1), (-1), (-1))) M) : xa_C (xl_I b) A h0 (d + 7) 140 [(2, 0, 0, 0, 0), (0, 0, l1, u1, sl)] M post := by
  refine xa_C_arg [(2, 0, 0, 0, 0), (0, 0, (-2147483648), 2147483647, sl)] (xa_svR (xa_svI (fun _ _ _ _ => by omega) (xa_sv0))) ?_
  refine xa_meth (Q0 := (2, 1, false, 0, 0, 11)) (by decide +kernel) ⟨rfl, rfl⟩ (full := s_c_140) rfl rfl ?_
  intro hM hv Q hgo
  refine hgo.1 21 [] 0 _ _ _ ?_
  refine And.intro ?_ ?_
  · intro (c1 : sl < 0)
    show post (some (0, 0, (-1), (-1), (-1))) M
    exact k0 (by omega)
  · intro (c1 : 0 ≤ sl)
    refine And.intro ?_ ?_
    · intro (c2 : sl ≤ 50)
      show xa_C (xl_I b) A h0 _ 59 [(2, 48, 0, 0, 0)] M _
      refine cx_59_48 ?_
      show xa_C (xl_I b) A h0 _ 141 [(2, 34, 0, 0, 0), (2, 1, 0, 0, 0), (0, 0, (-2147483648), 2147483647, sl), (2, 48, 0, 0, 0)] (xa_up M 48 1 0) _
      refine rz_141pN (N := M) (fun q j h1 h2 => by first | rfl | (simp [xa_up, h1, h2])) hF (show 0 ≤ sl ∧ sl ≤ 50 by omega) xa_up_eq ?_
      intro M112 (i3 : pl_K M M112) (z9 : M112 48 1 = 8)
      show post (some (0, 0, 0, 1000, pl_all (M 9) (M 10) (M 5) (M 6) (M 4) (M 7) (M 8) (M 1 9) (M 1 10) sl)) M112
      exact k1 (by omega) _ i3 z9
    · intro (c2 : 50 < sl)
      show post (some (0, 0, (-1), (-1), (-1))) M
      exact k0 (by omega)
theorem rm_room {A : Nat → Nat} {h0 : g_H} {d : Nat} {M : xa_M} {post : Option xa_V → xa_M → Prop} {l1 u1 a : Int} (hI : xm_Inv M) (k1 : (0 ≤ a ∧ a ≤ 50) → ∀ M1 : xa_M, xm_cor M M1 → M1 60 20 = 8 → post (some (0, 0, 0, 1000, pl_all (M 68) (M 69) (M 64) (M 65) (M 63) (M 66) (M 67) (M 60 0) (M 60 6) a)) M1) (k0 : ¬ (0 ≤ a ∧ a ≤ 50) → ∀ M1 : xa_M, xm_cor M M1 → M1 60 20 = M 60 20 → post (some (0, 0, (-1), (-1), (-1))) M1) : xa_C xm_I A h0 (d + 3) 263 [(2, 60, 0, 0, 0), (0, 0, l1, u1, a)] M post := by
  refine xa_C_wk ?_
  refine xa_C_arg [(2, 60, 0, 0, 0), (0, 0, (-2147483648), 2147483647, a)] (xa_svR (xa_svI (fun _ _ _ _ => by omega) (xa_sv0))) ?_
  refine xa_meth (Q0 := (16, 1, false, 0, 0, 12)) (by decide +kernel) ⟨rfl, rfl⟩ (full := s_c_263) rfl rfl ?_
  intro hM hv Q hgo
  have b0 := xm_f0 hM
  have b6 := xm_f6 hM
  have loops : ∀ (M1 : xa_M), xm_cor M M1 → 0 ≤ a ∧ a ≤ 50 → ∀ (n : Nat) (x6 x5 x4 x3 x2 : Int), 0 ≤ x6 ∧ x6 ≤ M1 60 0 → x2 = pl_sm (pl_nv (pl_P1 (M1 68) (M1 69) (M1 64) (M1 65) (M1 63) (M1 66) (M1 67) (M1 60 6)) (M1 60 0).toNat) x6.toNat → x5 = pl_sm (pl_nv (pl_P2 (M1 64) (M1 65)) (M1 60 0).toNat) x6.toNat → 14 - x6 < (n : Int) → Q 30 [(6, (0, 0, 0, 14, x6)), (5, (0, 0, 0, 196, x5)), (4, (0, 0, (-2147483648), 2147483647, x4)), (3, (0, 0, (-2147483648), 2147483647, x3)), (2, (0, 0, 0, 196, x2)), (1, (0, 0, 0, 50, a)), (0, (2, 60, 0, 0, 0))] [] M1 := by
    intro M1 hc b1
    have f63 : M1 63 = M 63 := funext (xm_corq hc 63 rfl)
    have f64 : M1 64 = M 64 := funext (xm_corq hc 64 rfl)
    have f65 : M1 65 = M 65 := funext (xm_corq hc 65 rfl)
    have f66 : M1 66 = M 66 := funext (xm_corq hc 66 rfl)
    have f67 : M1 67 = M 67 := funext (xm_corq hc 67 rfl)
    have f68 : M1 68 = M 68 := funext (xm_corq hc 68 rfl)
    have f69 : M1 69 = M 69 := funext (xm_corq hc 69 rfl)
    have e0 := xm_corf hc 0 (by omega)
    have e6 := xm_corf hc 6 (by omega)
    have t64 : ∀ v, 0 ≤ v → v < 14 → 0 ≤ M1 64 v ∧ M1 64 v ≤ 9 := fun v v0 v1 => by rw [f64]; exact xm_t64 hM v v0 v1
    have t66 : ∀ v, 0 ≤ v → v < 16 → 0 ≤ M1 66 v ∧ M1 66 v ≤ 13 := fun v v0 v1 => by rw [f66]; exact xm_t66 hM v v0 v1
    have t67 : ∀ v, 0 ≤ v → v < 16 → 0 ≤ M1 67 v ∧ M1 67 v ≤ 13 := fun v v0 v1 => by rw [f67]; exact xm_t67 hM v v0 v1
    have s1 := fun k => pl_sm_r (f := pl_nv (pl_P1 (M1 68) (M1 69) (M1 64) (M1 65) (M1 63) (M1 66) (M1 67) (M1 60 6)) (M1 60 0).toNat) (fun v => pl_nv_r (by omega) v) k
    have s2 := fun k => pl_sm_r (f := pl_nv (pl_P2 (M1 64) (M1 65)) (M1 60 0).toNat) (fun v => pl_nv_r (by omega) v) k
    have loop2 : ∀ (x5 x4 x3 x2 : Int), x2 = pl_sm (pl_nv (pl_P1 (M1 68) (M1 69) (M1 64) (M1 65) (M1 63) (M1 66) (M1 67) (M1 60 6)) (M1 60 0).toNat) (M1 60 0).toNat → x5 = pl_sm (pl_nv (pl_P2 (M1 64) (M1 65)) (M1 60 0).toNat) (M1 60 0).toNat → ∀ (n : Nat) (x10 x9 x8 x7 x6 : Int), -1 ≤ x10 ∧ x10 < M1 60 6 → x6 + pl_ct (pl_sk (M1 65) (M1 66) (M1 67)) (x10 + 1).toNat = pl_ct (pl_sk (M1 65) (M1 66) (M1 67)) (M1 60 6).toNat → x8 + pl_ct (pl_of (M1 68) (M1 69) (M1 64) (M1 63) (M1 66) (M1 67) a) (x10 + 1).toNat = pl_ct (pl_of (M1 68) (M1 69) (M1 64) (M1 63) (M1 66) (M1 67) a) (M1 60 6).toNat → x10 + 1 < (n : Int) → Q 165 [(10, (0, 0, (-1), 15, x10)), (9, (0, 0, (-2147483648), 2147483647, x9)), (8, (0, 0, 0, 16, x8)), (7, (0, 0, (-2147483648), 2147483647, x7)), (6, (0, 0, 0, 16, x6)), (5, (0, 0, 0, 196, x5)), (4, (0, 0, (-2147483648), 2147483647, x4)), (3, (0, 0, (-2147483648), 2147483647, x3)), (2, (0, 0, 0, 196, x2)), (1, (0, 0, 0, 50, a)), (0, (2, 60, 0, 0, 0))] [] M1 := by
      intro x5 x4 x3 x2 h2x h5x n
      have v1 := s1 (M1 60 0).toNat
      have v2 := s2 (M1 60 0).toNat
      have c1 := pl_ct_r (P := (pl_sk (M1 65) (M1 66) (M1 67))) (M1 60 6).toNat
      have c2 := pl_ct_r (P := (pl_of (M1 68) (M1 69) (M1 64) (M1 63) (M1 66) (M1 67) a)) (M1 60 6).toNat
      induction n with
      | zero => intro x10 x9 x8 x7 x6 b10 h6 h8 hms; omega
      | succ n ih =>
        intro x10 x9 x8 x7 x6 b10 h6 h8 hms
        have w1 := pl_ct_r (P := (pl_sk (M1 65) (M1 66) (M1 67))) (x10 + 1).toNat
        have w2 := pl_ct_r (P := (pl_of (M1 68) (M1 69) (M1 64) (M1 63) (M1 66) (M1 67) a)) (x10 + 1).toNat
        have g66 : 0 ≤ x10 → 0 ≤ M1 66 x10 ∧ M1 66 x10 ≤ 13 := fun h => t66 x10 h (by omega)
        have g67 : 0 ≤ x10 → 0 ≤ M1 67 x10 ∧ M1 67 x10 ≤ 13 := fun h => t67 x10 h (by omega)
        have g64 : 0 ≤ x10 → (0 ≤ M1 64 (M1 66 x10) ∧ M1 64 (M1 66 x10) ≤ 9) ∧ (0 ≤ M1 64 (M1 67 x10) ∧ M1 64 (M1 67 x10) ≤ 9) := fun h => ⟨t64 _ (g66 h).1 (by have := g66 h; omega), t64 _ (g67 h).1 (by have := g67 h; omega)⟩
        have ex10 : 0 ≤ x10 → ((x10.toNat : Nat) : Int) = x10 := fun h => Int.toNat_of_nonneg h
        refine hgo.1 81 [30, 45, 165] 165 _ _ _ ?_
        refine And.intro ?_ ?_
        · intro (c1 : x10 < 0)
          show xa_C xm_I A h0 _ 231 [(2, 60, 0, 0, 0), (1, 0, 0, 196, x2)] (xa_up M1 60 20 0) _
          refine ct_tell (n := 0) (by first | rfl | (simp [xa_up]; done) | omega) (by omega) (by omega) ?_
          show xa_C xm_I A h0 _ 231 [(2, 60, 0, 0, 0), (1, 0, (-2147483648), 2147483647, x3)] (xa_up (xa_up (xa_up M1 60 20 0) 74 0 x2) 60 20 1) _
          refine ct_tell (n := 1) (by first | rfl | (simp [xa_up]; done) | omega) (by omega) (by omega) ?_
          show xa_C xm_I A h0 _ 231 [(2, 60, 0, 0, 0), (1, 0, (-2147483648), 2147483647, x4)] (xa_up (xa_up (xa_up (xa_up (xa_up M1 60 20 0) 74 0 x2) 60 20 1) 74 1 x3) 60 20 2) _
          refine ct_tell (n := 2) (by first | rfl | (simp [xa_up]; done) | omega) (by omega) (by omega) ?_
          show xa_C xm_I A h0 _ 231 [(2, 60, 0, 0, 0), (1, 0, 0, 16, x6)] (xa_up (xa_up (xa_up (xa_up (xa_up (xa_up (xa_up M1 60 20 0) 74 0 x2) 60 20 1) 74 1 x3) 60 20 2) 74 2 x4) 60 20 3) _
          refine ct_tell (n := 3) (by first | rfl | (simp [xa_up]; done) | omega) (by omega) (by omega) ?_
          show xa_C xm_I A h0 _ 231 [(2, 60, 0, 0, 0), (1, 0, (-2147483648), 2147483647, x7)] (xa_up (xa_up (xa_up (xa_up (xa_up (xa_up (xa_up (xa_up (xa_up M1 60 20 0) 74 0 x2) 60 20 1) 74 1 x3) 60 20 2) 74 2 x4) 60 20 3) 74 3 x6) 60 20 4) _
          refine ct_tell (n := 4) (by first | rfl | (simp [xa_up]; done) | omega) (by omega) (by omega) ?_
          show xa_C xm_I A h0 _ 231 [(2, 60, 0, 0, 0), (1, 0, 0, 16, x8)] (xa_up (xa_up (xa_up (xa_up (xa_up (xa_up (xa_up (xa_up (xa_up (xa_up (xa_up M1 60 20 0) 74 0 x2) 60 20 1) 74 1 x3) 60 20 2) 74 2 x4) 60 20 3) 74 3 x6) 60 20 4) 74 4 x7) 60 20 5) _
          refine ct_tell (n := 5) (by first | rfl | (simp [xa_up]; done) | omega) (by omega) (by omega) ?_
          show xa_C xm_I A h0 _ 231 [(2, 60, 0, 0, 0), (1, 0, (-2147483648), 2147483647, x9)] (xa_up (xa_up (xa_up (xa_up (xa_up (xa_up (xa_up (xa_up (xa_up (xa_up (xa_up (xa_up (xa_up M1 60 20 0) 74 0 x2) 60 20 1) 74 1 x3) 60 20 2) 74 2 x4) 60 20 3) 74 3 x6) 60 20 4) 74 4 x7) 60 20 5) 74 5 x8) 60 20 6) _
          refine ct_tell (n := 6) (by first | rfl | (simp [xa_up]; done) | omega) (by omega) (by omega) ?_
          show xa_C xm_I A h0 _ 231 [(2, 60, 0, 0, 0), (1, 0, 0, 196, x5)] (xa_up (xa_up (xa_up (xa_up (xa_up (xa_up (xa_up (xa_up (xa_up (xa_up (xa_up (xa_up (xa_up (xa_up (xa_up M1 60 20 0) 74 0 x2) 60 20 1) 74 1 x3) 60 20 2) 74 2 x4) 60 20 3) 74 3 x6) 60 20 4) 74 4 x7) 60 20 5) 74 5 x8) 60 20 6) 74 6 x9) 60 20 7) _
          refine ct_tell (n := 7) (by first | rfl | (simp [xa_up]; done) | omega) (by omega) (by omega) ?_
          show xa_wk post (some (0, 0, 0, 424, ((x2 + x6) + x8) + x5)) (xa_up (xa_up (xa_up (xa_up (xa_up (xa_up (xa_up (xa_up (xa_up (xa_up (xa_up (xa_up (xa_up (xa_up (xa_up (xa_up (xa_up M1 60 20 0) 74 0 x2) 60 20 1) 74 1 x3) 60 20 2) 74 2 x4) 60 20 3) 74 3 x6) 60 20 4) 74 4 x7) 60 20 5) 74 5 x8) 60 20 6) 74 6 x9) 60 20 7) 74 7 x5) 60 20 8)
          have e10 : x10 = -1 := by omega
          rw [e10] at h6 h8
          have z6 : x6 + 0 = _ := h6
          have z8 : x8 + 0 = _ := h8
          refine xa_wkI _ ?_ (fun _ _ => by omega) (k1 b1 _ ?_ xa_up_eq)
          · unfold pl_all pl_pa
            rw [← f68, ← f69, ← f64, ← f65, ← f63, ← f66, ← f67, ← e0, ← e6]
            omega
          · exact (xm_cor_f (by omega) (xm_cor_a rfl (xm_cor_f (by omega) (xm_cor_a rfl (xm_cor_f (by omega) (xm_cor_a rfl (xm_cor_f (by omega) (xm_cor_a rfl (xm_cor_f (by omega) (xm_cor_a rfl (xm_cor_f (by omega) (xm_cor_a rfl (xm_cor_f (by omega) (xm_cor_a rfl (xm_cor_f (by omega) (xm_cor_a rfl (xm_cor_f (by omega) hc)))))))))))))))))
        · intro (c1 : 0 ≤ x10)
          refine And.intro (show 0 ≤ x10 ∧ x10 < 16 by omega) ?_
          refine And.intro (show 0 ≤ x10 ∧ x10 < 16 by omega) ?_
          refine And.intro ?_ ?_
          · intro (c2 : (M1 65 (M1 66 x10)) = (M1 65 (M1 67 x10)))
            show xa_C xm_I A h0 _ 265 [(2, 60, 0, 0, 0), (0, 0, 0, 9, M1 64 (M1 66 x10)), (0, 0, 0, 9, M1 64 (M1 67 x10))] M1 _
            refine ct_apart (by omega) (by omega) (by omega) (by omega) ?_
            intro r113 (i3 : r113 = (M1 68 (M1 64 (M1 66 x10)) - M1 68 (M1 64 (M1 67 x10))) * (M1 68 (M1 64 (M1 66 x10)) - M1 68 (M1 64 (M1 67 x10))) + (M1 69 (M1 64 (M1 66 x10)) - M1 69 (M1 64 (M1 67 x10))) * (M1 69 (M1 64 (M1 66 x10)) - M1 69 (M1 64 (M1 67 x10))))
            refine And.intro ?_ ?_
            · intro (c4 : ((((M1 63 (M1 66 x10)) + (M1 63 (M1 67 x10))) + a) * (((M1 63 (M1 66 x10)) + (M1 63 (M1 67 x10))) + a)) < r113)
              show Q 165 [(10, (0, 0, (-2), 14, x10 + (-1))), (9, (0, 0, (-1), 15, x10)), (8, (0, 0, 1, 17, x8 + 1)), (15, (0, 0, (-50), 800, ((M1 63 (M1 66 x10)) + (M1 63 (M1 67 x10))) - a)), (14, (0, 0, 0, 850, ((M1 63 (M1 66 x10)) + (M1 63 (M1 67 x10))) + a)), (13, (0, 0, 0, 2000000, r113)), (12, (0, 0, 0, 13, M1 67 x10)), (11, (0, 0, 0, 13, M1 66 x10)), (7, (0, 0, (-2147483648), 2147483647, x7)), (6, (0, 0, 0, 16, x6)), (5, (0, 0, 0, 196, x5)), (4, (0, 0, (-2147483648), 2147483647, x4)), (3, (0, 0, (-2147483648), 2147483647, x3)), (2, (0, 0, 0, 196, x2)), (1, (0, 0, 0, 50, a)), (0, (2, 60, 0, 0, 0))] [] M1
              have y1 := pl_ct_r (P := (pl_sk (M1 65) (M1 66) (M1 67))) (x10 + (-1) + 1).toNat
              have y2 := pl_ct_r (P := (pl_of (M1 68) (M1 69) (M1 64) (M1 63) (M1 66) (M1 67) a)) (x10 + (-1) + 1).toNat
              have ep : (x10 + (-1) + 1).toNat = x10.toNat := by omega
              have e6x : x6 + pl_ct (pl_sk (M1 65) (M1 66) (M1 67)) (x10 + (-1) + 1).toNat = pl_ct (pl_sk (M1 65) (M1 66) (M1 67)) (M1 60 6).toNat := by
                rw [ep, ← h6, show (x10 + 1).toNat = x10.toNat + 1 by omega, pl_ct0 (show ¬ (pl_sk (M1 65) (M1 66) (M1 67)) ((x10.toNat : Nat) : Int) by rw [ex10 (by omega)]; unfold pl_sk; omega)]
              have e8x : x8 + 1 + pl_ct (pl_of (M1 68) (M1 69) (M1 64) (M1 63) (M1 66) (M1 67) a) (x10 + (-1) + 1).toNat = pl_ct (pl_of (M1 68) (M1 69) (M1 64) (M1 63) (M1 66) (M1 67) a) (M1 60 6).toNat := by
                rw [ep, ← h8, show (x10 + 1).toNat = x10.toNat + 1 by omega, pl_ct1 (show (pl_of (M1 68) (M1 69) (M1 64) (M1 63) (M1 66) (M1 67) a) ((x10.toNat : Nat) : Int) by rw [ex10 (by omega)]; unfold pl_of pl_sq; omega)]
                omega
              refine hgo.2.1 165 _ [(10, (0, 0, (-1), 15, x10 + (-1))), (9, (0, 0, (-2147483648), 2147483647, x10)), (8, (0, 0, 0, 16, x8 + 1)), (7, (0, 0, (-2147483648), 2147483647, x7)), (6, (0, 0, 0, 16, x6)), (5, (0, 0, 0, 196, x5)), (4, (0, 0, (-2147483648), 2147483647, x4)), (3, (0, 0, (-2147483648), 2147483647, x3)), (2, (0, 0, 0, 196, x2)), (1, (0, 0, 0, 50, a)), (0, (2, 60, 0, 0, 0))] _ _ (xa_subI rfl rfl (fun _ _ _ _ => by omega) (xa_subI rfl rfl (fun _ _ _ _ => by omega) (xa_subI rfl rfl (fun _ _ _ _ => by omega) (xa_subI rfl rfl (fun _ _ _ _ => by omega) (xa_subI rfl rfl (fun _ _ _ _ => by omega) (xa_subI rfl rfl (fun _ _ _ _ => by omega) (xa_subI rfl rfl (fun _ _ _ _ => by omega) (xa_subI rfl rfl (fun _ _ _ _ => by omega) (xa_subI rfl rfl (fun _ _ _ _ => by omega) (xa_subI rfl rfl (fun _ _ _ _ => by omega) (xa_subR rfl (xa_sub0)))))))))))) ?_
              exact ih (x10 + (-1)) x10 (x8 + 1) x7 x6 (by omega) e6x e8x (by omega)
            · intro (c4 : r113 ≤ ((((M1 63 (M1 66 x10)) + (M1 63 (M1 67 x10))) + a) * (((M1 63 (M1 66 x10)) + (M1 63 (M1 67 x10))) + a)))
              refine And.intro ?_ ?_
              · intro (c5 : (((M1 63 (M1 66 x10)) + (M1 63 (M1 67 x10))) - a) ≤ 0)
                show Q 165 [(10, (0, 0, (-2), 14, x10 + (-1))), (15, (0, 0, (-50), 800, ((M1 63 (M1 66 x10)) + (M1 63 (M1 67 x10))) - a)), (14, (0, 0, 0, 850, ((M1 63 (M1 66 x10)) + (M1 63 (M1 67 x10))) + a)), (13, (0, 0, 0, 2000000, r113)), (12, (0, 0, 0, 13, M1 67 x10)), (11, (0, 0, 0, 13, M1 66 x10)), (9, (0, 0, (-2147483648), 2147483647, x9)), (8, (0, 0, 0, 16, x8)), (7, (0, 0, (-2147483648), 2147483647, x7)), (6, (0, 0, 0, 16, x6)), (5, (0, 0, 0, 196, x5)), (4, (0, 0, (-2147483648), 2147483647, x4)), (3, (0, 0, (-2147483648), 2147483647, x3)), (2, (0, 0, 0, 196, x2)), (1, (0, 0, 0, 50, a)), (0, (2, 60, 0, 0, 0))] [] M1
                have y1 := pl_ct_r (P := (pl_sk (M1 65) (M1 66) (M1 67))) (x10 + (-1) + 1).toNat
                have y2 := pl_ct_r (P := (pl_of (M1 68) (M1 69) (M1 64) (M1 63) (M1 66) (M1 67) a)) (x10 + (-1) + 1).toNat
                have ep : (x10 + (-1) + 1).toNat = x10.toNat := by omega
                have e6x : x6 + pl_ct (pl_sk (M1 65) (M1 66) (M1 67)) (x10 + (-1) + 1).toNat = pl_ct (pl_sk (M1 65) (M1 66) (M1 67)) (M1 60 6).toNat := by
                  rw [ep, ← h6, show (x10 + 1).toNat = x10.toNat + 1 by omega, pl_ct0 (show ¬ (pl_sk (M1 65) (M1 66) (M1 67)) ((x10.toNat : Nat) : Int) by rw [ex10 (by omega)]; unfold pl_sk; omega)]
                have e8x : x8 + pl_ct (pl_of (M1 68) (M1 69) (M1 64) (M1 63) (M1 66) (M1 67) a) (x10 + (-1) + 1).toNat = pl_ct (pl_of (M1 68) (M1 69) (M1 64) (M1 63) (M1 66) (M1 67) a) (M1 60 6).toNat := by
                  rw [ep, ← h8, show (x10 + 1).toNat = x10.toNat + 1 by omega, pl_ct0 (show ¬ (pl_of (M1 68) (M1 69) (M1 64) (M1 63) (M1 66) (M1 67) a) ((x10.toNat : Nat) : Int) by rw [ex10 (by omega)]; unfold pl_of pl_sq; omega)]
                refine hgo.2.1 165 _ [(10, (0, 0, (-1), 15, x10 + (-1))), (9, (0, 0, (-2147483648), 2147483647, x9)), (8, (0, 0, 0, 16, x8)), (7, (0, 0, (-2147483648), 2147483647, x7)), (6, (0, 0, 0, 16, x6)), (5, (0, 0, 0, 196, x5)), (4, (0, 0, (-2147483648), 2147483647, x4)), (3, (0, 0, (-2147483648), 2147483647, x3)), (2, (0, 0, 0, 196, x2)), (1, (0, 0, 0, 50, a)), (0, (2, 60, 0, 0, 0))] _ _ (xa_subI rfl rfl (fun _ _ _ _ => by omega) (xa_subI rfl rfl (fun _ _ _ _ => by omega) (xa_subI rfl rfl (fun _ _ _ _ => by omega) (xa_subI rfl rfl (fun _ _ _ _ => by omega) (xa_subI rfl rfl (fun _ _ _ _ => by omega) (xa_subI rfl rfl (fun _ _ _ _ => by omega) (xa_subI rfl rfl (fun _ _ _ _ => by omega) (xa_subI rfl rfl (fun _ _ _ _ => by omega) (xa_subI rfl rfl (fun _ _ _ _ => by omega) (xa_subI rfl rfl (fun _ _ _ _ => by omega) (xa_subR rfl (xa_sub0)))))))))))) ?_
                exact ih (x10 + (-1)) x9 x8 x7 x6 (by omega) e6x e8x (by omega)
              · intro (c5 : 0 < (((M1 63 (M1 66 x10)) + (M1 63 (M1 67 x10))) - a))
                refine And.intro ?_ ?_
                · intro (c6 : ((((M1 63 (M1 66 x10)) + (M1 63 (M1 67 x10))) - a) * (((M1 63 (M1 66 x10)) + (M1 63 (M1 67 x10))) - a)) ≤ r113)
                  show Q 165 [(10, (0, 0, (-2), 14, x10 + (-1))), (15, (0, 0, (-50), 800, ((M1 63 (M1 66 x10)) + (M1 63 (M1 67 x10))) - a)), (14, (0, 0, 0, 850, ((M1 63 (M1 66 x10)) + (M1 63 (M1 67 x10))) + a)), (13, (0, 0, 0, 2000000, r113)), (12, (0, 0, 0, 13, M1 67 x10)), (11, (0, 0, 0, 13, M1 66 x10)), (9, (0, 0, (-2147483648), 2147483647, x9)), (8, (0, 0, 0, 16, x8)), (7, (0, 0, (-2147483648), 2147483647, x7)), (6, (0, 0, 0, 16, x6)), (5, (0, 0, 0, 196, x5)), (4, (0, 0, (-2147483648), 2147483647, x4)), (3, (0, 0, (-2147483648), 2147483647, x3)), (2, (0, 0, 0, 196, x2)), (1, (0, 0, 0, 50, a)), (0, (2, 60, 0, 0, 0))] [] M1
                  have y1 := pl_ct_r (P := (pl_sk (M1 65) (M1 66) (M1 67))) (x10 + (-1) + 1).toNat
                  have y2 := pl_ct_r (P := (pl_of (M1 68) (M1 69) (M1 64) (M1 63) (M1 66) (M1 67) a)) (x10 + (-1) + 1).toNat
                  have ep : (x10 + (-1) + 1).toNat = x10.toNat := by omega
                  have e6x : x6 + pl_ct (pl_sk (M1 65) (M1 66) (M1 67)) (x10 + (-1) + 1).toNat = pl_ct (pl_sk (M1 65) (M1 66) (M1 67)) (M1 60 6).toNat := by
                    rw [ep, ← h6, show (x10 + 1).toNat = x10.toNat + 1 by omega, pl_ct0 (show ¬ (pl_sk (M1 65) (M1 66) (M1 67)) ((x10.toNat : Nat) : Int) by rw [ex10 (by omega)]; unfold pl_sk; omega)]
                  have e8x : x8 + pl_ct (pl_of (M1 68) (M1 69) (M1 64) (M1 63) (M1 66) (M1 67) a) (x10 + (-1) + 1).toNat = pl_ct (pl_of (M1 68) (M1 69) (M1 64) (M1 63) (M1 66) (M1 67) a) (M1 60 6).toNat := by
                    rw [ep, ← h8, show (x10 + 1).toNat = x10.toNat + 1 by omega, pl_ct0 (show ¬ (pl_of (M1 68) (M1 69) (M1 64) (M1 63) (M1 66) (M1 67) a) ((x10.toNat : Nat) : Int) by rw [ex10 (by omega)]; unfold pl_of pl_sq; omega)]
                  refine hgo.2.1 165 _ [(10, (0, 0, (-1), 15, x10 + (-1))), (9, (0, 0, (-2147483648), 2147483647, x9)), (8, (0, 0, 0, 16, x8)), (7, (0, 0, (-2147483648), 2147483647, x7)), (6, (0, 0, 0, 16, x6)), (5, (0, 0, 0, 196, x5)), (4, (0, 0, (-2147483648), 2147483647, x4)), (3, (0, 0, (-2147483648), 2147483647, x3)), (2, (0, 0, 0, 196, x2)), (1, (0, 0, 0, 50, a)), (0, (2, 60, 0, 0, 0))] _ _ (xa_subI rfl rfl (fun _ _ _ _ => by omega) (xa_subI rfl rfl (fun _ _ _ _ => by omega) (xa_subI rfl rfl (fun _ _ _ _ => by omega) (xa_subI rfl rfl (fun _ _ _ _ => by omega) (xa_subI rfl rfl (fun _ _ _ _ => by omega) (xa_subI rfl rfl (fun _ _ _ _ => by omega) (xa_subI rfl rfl (fun _ _ _ _ => by omega) (xa_subI rfl rfl (fun _ _ _ _ => by omega) (xa_subI rfl rfl (fun _ _ _ _ => by omega) (xa_subI rfl rfl (fun _ _ _ _ => by omega) (xa_subR rfl (xa_sub0)))))))))))) ?_
                  exact ih (x10 + (-1)) x9 x8 x7 x6 (by omega) e6x e8x (by omega)
                · intro (c6 : r113 < ((((M1 63 (M1 66 x10)) + (M1 63 (M1 67 x10))) - a) * (((M1 63 (M1 66 x10)) + (M1 63 (M1 67 x10))) - a)))
                  show Q 165 [(10, (0, 0, (-2), 14, x10 + (-1))), (9, (0, 0, (-1), 15, x10)), (8, (0, 0, 1, 17, x8 + 1)), (15, (0, 0, (-50), 800, ((M1 63 (M1 66 x10)) + (M1 63 (M1 67 x10))) - a)), (14, (0, 0, 0, 850, ((M1 63 (M1 66 x10)) + (M1 63 (M1 67 x10))) + a)), (13, (0, 0, 0, 2000000, r113)), (12, (0, 0, 0, 13, M1 67 x10)), (11, (0, 0, 0, 13, M1 66 x10)), (7, (0, 0, (-2147483648), 2147483647, x7)), (6, (0, 0, 0, 16, x6)), (5, (0, 0, 0, 196, x5)), (4, (0, 0, (-2147483648), 2147483647, x4)), (3, (0, 0, (-2147483648), 2147483647, x3)), (2, (0, 0, 0, 196, x2)), (1, (0, 0, 0, 50, a)), (0, (2, 60, 0, 0, 0))] [] M1
                  have y1 := pl_ct_r (P := (pl_sk (M1 65) (M1 66) (M1 67))) (x10 + (-1) + 1).toNat
                  have y2 := pl_ct_r (P := (pl_of (M1 68) (M1 69) (M1 64) (M1 63) (M1 66) (M1 67) a)) (x10 + (-1) + 1).toNat
                  have ep : (x10 + (-1) + 1).toNat = x10.toNat := by omega
                  have e6x : x6 + pl_ct (pl_sk (M1 65) (M1 66) (M1 67)) (x10 + (-1) + 1).toNat = pl_ct (pl_sk (M1 65) (M1 66) (M1 67)) (M1 60 6).toNat := by
                    rw [ep, ← h6, show (x10 + 1).toNat = x10.toNat + 1 by omega, pl_ct0 (show ¬ (pl_sk (M1 65) (M1 66) (M1 67)) ((x10.toNat : Nat) : Int) by rw [ex10 (by omega)]; unfold pl_sk; omega)]
                  have e8x : x8 + 1 + pl_ct (pl_of (M1 68) (M1 69) (M1 64) (M1 63) (M1 66) (M1 67) a) (x10 + (-1) + 1).toNat = pl_ct (pl_of (M1 68) (M1 69) (M1 64) (M1 63) (M1 66) (M1 67) a) (M1 60 6).toNat := by
                    rw [ep, ← h8, show (x10 + 1).toNat = x10.toNat + 1 by omega, pl_ct1 (show (pl_of (M1 68) (M1 69) (M1 64) (M1 63) (M1 66) (M1 67) a) ((x10.toNat : Nat) : Int) by rw [ex10 (by omega)]; unfold pl_of pl_sq; omega)]
                    omega
                  refine hgo.2.1 165 _ [(10, (0, 0, (-1), 15, x10 + (-1))), (9, (0, 0, (-2147483648), 2147483647, x10)), (8, (0, 0, 0, 16, x8 + 1)), (7, (0, 0, (-2147483648), 2147483647, x7)), (6, (0, 0, 0, 16, x6)), (5, (0, 0, 0, 196, x5)), (4, (0, 0, (-2147483648), 2147483647, x4)), (3, (0, 0, (-2147483648), 2147483647, x3)), (2, (0, 0, 0, 196, x2)), (1, (0, 0, 0, 50, a)), (0, (2, 60, 0, 0, 0))] _ _ (xa_subI rfl rfl (fun _ _ _ _ => by omega) (xa_subI rfl rfl (fun _ _ _ _ => by omega) (xa_subI rfl rfl (fun _ _ _ _ => by omega) (xa_subI rfl rfl (fun _ _ _ _ => by omega) (xa_subI rfl rfl (fun _ _ _ _ => by omega) (xa_subI rfl rfl (fun _ _ _ _ => by omega) (xa_subI rfl rfl (fun _ _ _ _ => by omega) (xa_subI rfl rfl (fun _ _ _ _ => by omega) (xa_subI rfl rfl (fun _ _ _ _ => by omega) (xa_subI rfl rfl (fun _ _ _ _ => by omega) (xa_subR rfl (xa_sub0)))))))))))) ?_
                  exact ih (x10 + (-1)) x10 (x8 + 1) x7 x6 (by omega) e6x e8x (by omega)
          · intro (c2 : ¬ (M1 65 (M1 66 x10)) = (M1 65 (M1 67 x10)))
            show xa_C xm_I A h0 _ 265 [(2, 60, 0, 0, 0), (0, 0, 0, 9, M1 64 (M1 66 x10)), (0, 0, 0, 9, M1 64 (M1 67 x10))] M1 _
            refine ct_apart (by omega) (by omega) (by omega) (by omega) ?_
            intro r114 (i7 : r114 = (M1 68 (M1 64 (M1 66 x10)) - M1 68 (M1 64 (M1 67 x10))) * (M1 68 (M1 64 (M1 66 x10)) - M1 68 (M1 64 (M1 67 x10))) + (M1 69 (M1 64 (M1 66 x10)) - M1 69 (M1 64 (M1 67 x10))) * (M1 69 (M1 64 (M1 66 x10)) - M1 69 (M1 64 (M1 67 x10))))
            refine And.intro ?_ ?_
            · intro (c8 : ((((M1 63 (M1 66 x10)) + (M1 63 (M1 67 x10))) + a) * (((M1 63 (M1 66 x10)) + (M1 63 (M1 67 x10))) + a)) < r114)
              show Q 165 [(10, (0, 0, (-2), 14, x10 + (-1))), (9, (0, 0, (-1), 15, x10)), (8, (0, 0, 1, 17, x8 + 1)), (15, (0, 0, (-50), 800, ((M1 63 (M1 66 x10)) + (M1 63 (M1 67 x10))) - a)), (14, (0, 0, 0, 850, ((M1 63 (M1 66 x10)) + (M1 63 (M1 67 x10))) + a)), (13, (0, 0, 0, 2000000, r114)), (7, (0, 0, (-1), 15, x10)), (6, (0, 0, 1, 17, x6 + 1)), (12, (0, 0, 0, 13, M1 67 x10)), (11, (0, 0, 0, 13, M1 66 x10)), (5, (0, 0, 0, 196, x5)), (4, (0, 0, (-2147483648), 2147483647, x4)), (3, (0, 0, (-2147483648), 2147483647, x3)), (2, (0, 0, 0, 196, x2)), (1, (0, 0, 0, 50, a)), (0, (2, 60, 0, 0, 0))] [] M1
              have y1 := pl_ct_r (P := (pl_sk (M1 65) (M1 66) (M1 67))) (x10 + (-1) + 1).toNat
              have y2 := pl_ct_r (P := (pl_of (M1 68) (M1 69) (M1 64) (M1 63) (M1 66) (M1 67) a)) (x10 + (-1) + 1).toNat
              have ep : (x10 + (-1) + 1).toNat = x10.toNat := by omega
              have e6x : x6 + 1 + pl_ct (pl_sk (M1 65) (M1 66) (M1 67)) (x10 + (-1) + 1).toNat = pl_ct (pl_sk (M1 65) (M1 66) (M1 67)) (M1 60 6).toNat := by
                rw [ep, ← h6, show (x10 + 1).toNat = x10.toNat + 1 by omega, pl_ct1 (show (pl_sk (M1 65) (M1 66) (M1 67)) ((x10.toNat : Nat) : Int) by rw [ex10 (by omega)]; unfold pl_sk; omega)]
                omega
              have e8x : x8 + 1 + pl_ct (pl_of (M1 68) (M1 69) (M1 64) (M1 63) (M1 66) (M1 67) a) (x10 + (-1) + 1).toNat = pl_ct (pl_of (M1 68) (M1 69) (M1 64) (M1 63) (M1 66) (M1 67) a) (M1 60 6).toNat := by
                rw [ep, ← h8, show (x10 + 1).toNat = x10.toNat + 1 by omega, pl_ct1 (show (pl_of (M1 68) (M1 69) (M1 64) (M1 63) (M1 66) (M1 67) a) ((x10.toNat : Nat) : Int) by rw [ex10 (by omega)]; unfold pl_of pl_sq; omega)]
                omega
              refine hgo.2.1 165 _ [(10, (0, 0, (-1), 15, x10 + (-1))), (9, (0, 0, (-2147483648), 2147483647, x10)), (8, (0, 0, 0, 16, x8 + 1)), (7, (0, 0, (-2147483648), 2147483647, x10)), (6, (0, 0, 0, 16, x6 + 1)), (5, (0, 0, 0, 196, x5)), (4, (0, 0, (-2147483648), 2147483647, x4)), (3, (0, 0, (-2147483648), 2147483647, x3)), (2, (0, 0, 0, 196, x2)), (1, (0, 0, 0, 50, a)), (0, (2, 60, 0, 0, 0))] _ _ (xa_subI rfl rfl (fun _ _ _ _ => by omega) (xa_subI rfl rfl (fun _ _ _ _ => by omega) (xa_subI rfl rfl (fun _ _ _ _ => by omega) (xa_subI rfl rfl (fun _ _ _ _ => by omega) (xa_subI rfl rfl (fun _ _ _ _ => by omega) (xa_subI rfl rfl (fun _ _ _ _ => by omega) (xa_subI rfl rfl (fun _ _ _ _ => by omega) (xa_subI rfl rfl (fun _ _ _ _ => by omega) (xa_subI rfl rfl (fun _ _ _ _ => by omega) (xa_subI rfl rfl (fun _ _ _ _ => by omega) (xa_subR rfl (xa_sub0)))))))))))) ?_
              exact ih (x10 + (-1)) x10 (x8 + 1) x10 (x6 + 1) (by omega) e6x e8x (by omega)
            · intro (c8 : r114 ≤ ((((M1 63 (M1 66 x10)) + (M1 63 (M1 67 x10))) + a) * (((M1 63 (M1 66 x10)) + (M1 63 (M1 67 x10))) + a)))
              refine And.intro ?_ ?_
              · intro (c9 : (((M1 63 (M1 66 x10)) + (M1 63 (M1 67 x10))) - a) ≤ 0)
                show Q 165 [(10, (0, 0, (-2), 14, x10 + (-1))), (15, (0, 0, (-50), 800, ((M1 63 (M1 66 x10)) + (M1 63 (M1 67 x10))) - a)), (14, (0, 0, 0, 850, ((M1 63 (M1 66 x10)) + (M1 63 (M1 67 x10))) + a)), (13, (0, 0, 0, 2000000, r114)), (7, (0, 0, (-1), 15, x10)), (6, (0, 0, 1, 17, x6 + 1)), (12, (0, 0, 0, 13, M1 67 x10)), (11, (0, 0, 0, 13, M1 66 x10)), (9, (0, 0, (-2147483648), 2147483647, x9)), (8, (0, 0, 0, 16, x8)), (5, (0, 0, 0, 196, x5)), (4, (0, 0, (-2147483648), 2147483647, x4)), (3, (0, 0, (-2147483648), 2147483647, x3)), (2, (0, 0, 0, 196, x2)), (1, (0, 0, 0, 50, a)), (0, (2, 60, 0, 0, 0))] [] M1
                have y1 := pl_ct_r (P := (pl_sk (M1 65) (M1 66) (M1 67))) (x10 + (-1) + 1).toNat
                have y2 := pl_ct_r (P := (pl_of (M1 68) (M1 69) (M1 64) (M1 63) (M1 66) (M1 67) a)) (x10 + (-1) + 1).toNat
                have ep : (x10 + (-1) + 1).toNat = x10.toNat := by omega
                have e6x : x6 + 1 + pl_ct (pl_sk (M1 65) (M1 66) (M1 67)) (x10 + (-1) + 1).toNat = pl_ct (pl_sk (M1 65) (M1 66) (M1 67)) (M1 60 6).toNat := by
                  rw [ep, ← h6, show (x10 + 1).toNat = x10.toNat + 1 by omega, pl_ct1 (show (pl_sk (M1 65) (M1 66) (M1 67)) ((x10.toNat : Nat) : Int) by rw [ex10 (by omega)]; unfold pl_sk; omega)]
                  omega
                have e8x : x8 + pl_ct (pl_of (M1 68) (M1 69) (M1 64) (M1 63) (M1 66) (M1 67) a) (x10 + (-1) + 1).toNat = pl_ct (pl_of (M1 68) (M1 69) (M1 64) (M1 63) (M1 66) (M1 67) a) (M1 60 6).toNat := by
                  rw [ep, ← h8, show (x10 + 1).toNat = x10.toNat + 1 by omega, pl_ct0 (show ¬ (pl_of (M1 68) (M1 69) (M1 64) (M1 63) (M1 66) (M1 67) a) ((x10.toNat : Nat) : Int) by rw [ex10 (by omega)]; unfold pl_of pl_sq; omega)]
                refine hgo.2.1 165 _ [(10, (0, 0, (-1), 15, x10 + (-1))), (9, (0, 0, (-2147483648), 2147483647, x9)), (8, (0, 0, 0, 16, x8)), (7, (0, 0, (-2147483648), 2147483647, x10)), (6, (0, 0, 0, 16, x6 + 1)), (5, (0, 0, 0, 196, x5)), (4, (0, 0, (-2147483648), 2147483647, x4)), (3, (0, 0, (-2147483648), 2147483647, x3)), (2, (0, 0, 0, 196, x2)), (1, (0, 0, 0, 50, a)), (0, (2, 60, 0, 0, 0))] _ _ (xa_subI rfl rfl (fun _ _ _ _ => by omega) (xa_subI rfl rfl (fun _ _ _ _ => by omega) (xa_subI rfl rfl (fun _ _ _ _ => by omega) (xa_subI rfl rfl (fun _ _ _ _ => by omega) (xa_subI rfl rfl (fun _ _ _ _ => by omega) (xa_subI rfl rfl (fun _ _ _ _ => by omega) (xa_subI rfl rfl (fun _ _ _ _ => by omega) (xa_subI rfl rfl (fun _ _ _ _ => by omega) (xa_subI rfl rfl (fun _ _ _ _ => by omega) (xa_subI rfl rfl (fun _ _ _ _ => by omega) (xa_subR rfl (xa_sub0)))))))))))) ?_
                exact ih (x10 + (-1)) x9 x8 x10 (x6 + 1) (by omega) e6x e8x (by omega)
              · intro (c9 : 0 < (((M1 63 (M1 66 x10)) + (M1 63 (M1 67 x10))) - a))
                refine And.intro ?_ ?_
                · intro (c10 : ((((M1 63 (M1 66 x10)) + (M1 63 (M1 67 x10))) - a) * (((M1 63 (M1 66 x10)) + (M1 63 (M1 67 x10))) - a)) ≤ r114)
                  show Q 165 [(10, (0, 0, (-2), 14, x10 + (-1))), (15, (0, 0, (-50), 800, ((M1 63 (M1 66 x10)) + (M1 63 (M1 67 x10))) - a)), (14, (0, 0, 0, 850, ((M1 63 (M1 66 x10)) + (M1 63 (M1 67 x10))) + a)), (13, (0, 0, 0, 2000000, r114)), (7, (0, 0, (-1), 15, x10)), (6, (0, 0, 1, 17, x6 + 1)), (12, (0, 0, 0, 13, M1 67 x10)), (11, (0, 0, 0, 13, M1 66 x10)), (9, (0, 0, (-2147483648), 2147483647, x9)), (8, (0, 0, 0, 16, x8)), (5, (0, 0, 0, 196, x5)), (4, (0, 0, (-2147483648), 2147483647, x4)), (3, (0, 0, (-2147483648), 2147483647, x3)), (2, (0, 0, 0, 196, x2)), (1, (0, 0, 0, 50, a)), (0, (2, 60, 0, 0, 0))] [] M1
                  have y1 := pl_ct_r (P := (pl_sk (M1 65) (M1 66) (M1 67))) (x10 + (-1) + 1).toNat
                  have y2 := pl_ct_r (P := (pl_of (M1 68) (M1 69) (M1 64) (M1 63) (M1 66) (M1 67) a)) (x10 + (-1) + 1).toNat
                  have ep : (x10 + (-1) + 1).toNat = x10.toNat := by omega
                  have e6x : x6 + 1 + pl_ct (pl_sk (M1 65) (M1 66) (M1 67)) (x10 + (-1) + 1).toNat = pl_ct (pl_sk (M1 65) (M1 66) (M1 67)) (M1 60 6).toNat := by
                    rw [ep, ← h6, show (x10 + 1).toNat = x10.toNat + 1 by omega, pl_ct1 (show (pl_sk (M1 65) (M1 66) (M1 67)) ((x10.toNat : Nat) : Int) by rw [ex10 (by omega)]; unfold pl_sk; omega)]
                    omega
                  have e8x : x8 + pl_ct (pl_of (M1 68) (M1 69) (M1 64) (M1 63) (M1 66) (M1 67) a) (x10 + (-1) + 1).toNat = pl_ct (pl_of (M1 68) (M1 69) (M1 64) (M1 63) (M1 66) (M1 67) a) (M1 60 6).toNat := by
                    rw [ep, ← h8, show (x10 + 1).toNat = x10.toNat + 1 by omega, pl_ct0 (show ¬ (pl_of (M1 68) (M1 69) (M1 64) (M1 63) (M1 66) (M1 67) a) ((x10.toNat : Nat) : Int) by rw [ex10 (by omega)]; unfold pl_of pl_sq; omega)]
                  refine hgo.2.1 165 _ [(10, (0, 0, (-1), 15, x10 + (-1))), (9, (0, 0, (-2147483648), 2147483647, x9)), (8, (0, 0, 0, 16, x8)), (7, (0, 0, (-2147483648), 2147483647, x10)), (6, (0, 0, 0, 16, x6 + 1)), (5, (0, 0, 0, 196, x5)), (4, (0, 0, (-2147483648), 2147483647, x4)), (3, (0, 0, (-2147483648), 2147483647, x3)), (2, (0, 0, 0, 196, x2)), (1, (0, 0, 0, 50, a)), (0, (2, 60, 0, 0, 0))] _ _ (xa_subI rfl rfl (fun _ _ _ _ => by omega) (xa_subI rfl rfl (fun _ _ _ _ => by omega) (xa_subI rfl rfl (fun _ _ _ _ => by omega) (xa_subI rfl rfl (fun _ _ _ _ => by omega) (xa_subI rfl rfl (fun _ _ _ _ => by omega) (xa_subI rfl rfl (fun _ _ _ _ => by omega) (xa_subI rfl rfl (fun _ _ _ _ => by omega) (xa_subI rfl rfl (fun _ _ _ _ => by omega) (xa_subI rfl rfl (fun _ _ _ _ => by omega) (xa_subI rfl rfl (fun _ _ _ _ => by omega) (xa_subR rfl (xa_sub0)))))))))))) ?_
                  exact ih (x10 + (-1)) x9 x8 x10 (x6 + 1) (by omega) e6x e8x (by omega)
                · intro (c10 : r114 < ((((M1 63 (M1 66 x10)) + (M1 63 (M1 67 x10))) - a) * (((M1 63 (M1 66 x10)) + (M1 63 (M1 67 x10))) - a)))
                  show Q 165 [(10, (0, 0, (-2), 14, x10 + (-1))), (9, (0, 0, (-1), 15, x10)), (8, (0, 0, 1, 17, x8 + 1)), (15, (0, 0, (-50), 800, ((M1 63 (M1 66 x10)) + (M1 63 (M1 67 x10))) - a)), (14, (0, 0, 0, 850, ((M1 63 (M1 66 x10)) + (M1 63 (M1 67 x10))) + a)), (13, (0, 0, 0, 2000000, r114)), (7, (0, 0, (-1), 15, x10)), (6, (0, 0, 1, 17, x6 + 1)), (12, (0, 0, 0, 13, M1 67 x10)), (11, (0, 0, 0, 13, M1 66 x10)), (5, (0, 0, 0, 196, x5)), (4, (0, 0, (-2147483648), 2147483647, x4)), (3, (0, 0, (-2147483648), 2147483647, x3)), (2, (0, 0, 0, 196, x2)), (1, (0, 0, 0, 50, a)), (0, (2, 60, 0, 0, 0))] [] M1
                  have y1 := pl_ct_r (P := (pl_sk (M1 65) (M1 66) (M1 67))) (x10 + (-1) + 1).toNat
                  have y2 := pl_ct_r (P := (pl_of (M1 68) (M1 69) (M1 64) (M1 63) (M1 66) (M1 67) a)) (x10 + (-1) + 1).toNat
                  have ep : (x10 + (-1) + 1).toNat = x10.toNat := by omega
                  have e6x : x6 + 1 + pl_ct (pl_sk (M1 65) (M1 66) (M1 67)) (x10 + (-1) + 1).toNat = pl_ct (pl_sk (M1 65) (M1 66) (M1 67)) (M1 60 6).toNat := by
                    rw [ep, ← h6, show (x10 + 1).toNat = x10.toNat + 1 by omega, pl_ct1 (show (pl_sk (M1 65) (M1 66) (M1 67)) ((x10.toNat : Nat) : Int) by rw [ex10 (by omega)]; unfold pl_sk; omega)]
                    omega
                  have e8x : x8 + 1 + pl_ct (pl_of (M1 68) (M1 69) (M1 64) (M1 63) (M1 66) (M1 67) a) (x10 + (-1) + 1).toNat = pl_ct (pl_of (M1 68) (M1 69) (M1 64) (M1 63) (M1 66) (M1 67) a) (M1 60 6).toNat := by
                    rw [ep, ← h8, show (x10 + 1).toNat = x10.toNat + 1 by omega, pl_ct1 (show (pl_of (M1 68) (M1 69) (M1 64) (M1 63) (M1 66) (M1 67) a) ((x10.toNat : Nat) : Int) by rw [ex10 (by omega)]; unfold pl_of pl_sq; omega)]
                    omega
                  refine hgo.2.1 165 _ [(10, (0, 0, (-1), 15, x10 + (-1))), (9, (0, 0, (-2147483648), 2147483647, x10)), (8, (0, 0, 0, 16, x8 + 1)), (7, (0, 0, (-2147483648), 2147483647, x10)), (6, (0, 0, 0, 16, x6 + 1)), (5, (0, 0, 0, 196, x5)), (4, (0, 0, (-2147483648), 2147483647, x4)), (3, (0, 0, (-2147483648), 2147483647, x3)), (2, (0, 0, 0, 196, x2)), (1, (0, 0, 0, 50, a)), (0, (2, 60, 0, 0, 0))] _ _ (xa_subI rfl rfl (fun _ _ _ _ => by omega) (xa_subI rfl rfl (fun _ _ _ _ => by omega) (xa_subI rfl rfl (fun _ _ _ _ => by omega) (xa_subI rfl rfl (fun _ _ _ _ => by omega) (xa_subI rfl rfl (fun _ _ _ _ => by omega) (xa_subI rfl rfl (fun _ _ _ _ => by omega) (xa_subI rfl rfl (fun _ _ _ _ => by omega) (xa_subI rfl rfl (fun _ _ _ _ => by omega) (xa_subI rfl rfl (fun _ _ _ _ => by omega) (xa_subI rfl rfl (fun _ _ _ _ => by omega) (xa_subR rfl (xa_sub0)))))))))))) ?_
                  exact ih (x10 + (-1)) x10 (x8 + 1) x10 (x6 + 1) (by omega) e6x e8x (by omega)
    intro n
    induction n with
    | zero => intro x6 x5 x4 x3 x2 b6x h4 h5 hms; omega
    | succ n ih =>
      intro x6 x5 x4 x3 x2 b6x h4 h5 hms
      have ev : ((x6.toNat : Nat) : Int) = x6 := Int.toNat_of_nonneg b6x.1
      have v1 := s1 x6.toNat
      have v2 := s2 x6.toNat
      have inner : x6 < M1 60 0 → ∀ (n : Nat) (x7 x5 x4 x3 x2 : Int), x6 + 1 ≤ x7 ∧ x7 ≤ M1 60 0 → x2 = pl_sm (pl_nv (pl_P1 (M1 68) (M1 69) (M1 64) (M1 65) (M1 63) (M1 66) (M1 67) (M1 60 6)) (M1 60 0).toNat) x6.toNat + pl_ct (fun w => x6 < w ∧ (pl_P1 (M1 68) (M1 69) (M1 64) (M1 65) (M1 63) (M1 66) (M1 67) (M1 60 6)) x6 w) x7.toNat → x5 = pl_sm (pl_nv (pl_P2 (M1 64) (M1 65)) (M1 60 0).toNat) x6.toNat + pl_ct (fun w => x6 < w ∧ (pl_P2 (M1 64) (M1 65)) x6 w) x7.toNat → 14 - x7 < (n : Int) → Q 45 [(7, (0, 0, 1, 15, x7)), (6, (0, 0, 0, 13, x6)), (5, (0, 0, 0, 196, x5)), (4, (0, 0, (-2147483648), 2147483647, x4)), (3, (0, 0, (-2147483648), 2147483647, x3)), (2, (0, 0, 0, 196, x2)), (1, (0, 0, 0, 50, a)), (0, (2, 60, 0, 0, 0))] [] M1 := by
        intro hv1 n
        induction n with
        | zero => intro x7 x5 x4 x3 x2 b7 h4 h5 hms; omega
        | succ n ih2 =>
          intro x7 x5 x4 x3 x2 b7 h4 h5 hms
          have ew : ((x7.toNat : Nat) : Int) = x7 := Int.toNat_of_nonneg (by omega)
          have w1 := pl_ct_r (P := (fun w => x6 < w ∧ (pl_P1 (M1 68) (M1 69) (M1 64) (M1 65) (M1 63) (M1 66) (M1 67) (M1 60 6)) x6 w)) x7.toNat
          have w2 := pl_ct_r (P := (fun w => x6 < w ∧ (pl_P2 (M1 64) (M1 65)) x6 w)) x7.toNat
          refine hgo.1 47 [30, 45, 165] 45 _ _ _ ?_
          refine And.intro ?_ ?_
          · intro (c1 : (M1 60 0) ≤ x7)
            show Q 30 [(6, (0, 0, 1, 14, x6 + 1)), (7, (0, 0, 1, 15, x7)), (5, (0, 0, 0, 196, x5)), (4, (0, 0, (-2147483648), 2147483647, x4)), (3, (0, 0, (-2147483648), 2147483647, x3)), (2, (0, 0, 0, 196, x2)), (1, (0, 0, 0, 50, a)), (0, (2, 60, 0, 0, 0))] [] M1
            have en1 : x2 = pl_sm (pl_nv (pl_P1 (M1 68) (M1 69) (M1 64) (M1 65) (M1 63) (M1 66) (M1 67) (M1 60 6)) (M1 60 0).toNat) (x6 + 1).toNat := by
              rw [show (x6 + 1).toNat = x6.toNat + 1 by omega, pl_sm1, ev, h4, show x7 = M1 60 0 by omega]
              rfl
            have en2 : x5 = pl_sm (pl_nv (pl_P2 (M1 64) (M1 65)) (M1 60 0).toNat) (x6 + 1).toNat := by
              rw [show (x6 + 1).toNat = x6.toNat + 1 by omega, pl_sm1, ev, h5, show x7 = M1 60 0 by omega]
              rfl
            refine hgo.2.1 30 _ [(6, (0, 0, 0, 14, x6 + 1)), (5, (0, 0, 0, 196, x5)), (4, (0, 0, (-2147483648), 2147483647, x4)), (3, (0, 0, (-2147483648), 2147483647, x3)), (2, (0, 0, 0, 196, x2)), (1, (0, 0, 0, 50, a)), (0, (2, 60, 0, 0, 0))] _ _ (xa_subI rfl rfl (fun _ _ _ _ => by omega) (xa_subI rfl rfl (fun _ _ _ _ => by omega) (xa_subI rfl rfl (fun _ _ _ _ => by omega) (xa_subI rfl rfl (fun _ _ _ _ => by omega) (xa_subI rfl rfl (fun _ _ _ _ => by omega) (xa_subI rfl rfl (fun _ _ _ _ => by omega) (xa_subR rfl (xa_sub0)))))))) ?_
            exact ih (x6 + 1) x5 x4 x3 x2 (by omega) en1 en2 (by omega)
          · intro (c1 : x7 < (M1 60 0))
            refine And.intro (show 0 ≤ x7 ∧ x7 < 14 by omega) ?_
            refine And.intro ?_ ?_
            · intro (c2 : (M1 65 x6) = (M1 65 x7))
              refine And.intro (show 0 ≤ x7 ∧ x7 < 14 by omega) ?_
              refine And.intro ?_ ?_
              · intro (c3 : ¬ (M1 64 x6) = (M1 64 x7))
                show xa_C xm_I A h0 _ 264 [(2, 60, 0, 0, 0), (0, 0, 0, 13, x6), (0, 0, 1, 15, x7)] M1 _
                refine ct_areNearF (by omega) (by omega) (by omega) (by omega) ?_
                intro r115 (i4 : r115 = 0 ∨ r115 = 1) (i5 : r115 = 1 ↔ xm_near M1 x6 x7)
                refine And.intro ?_ ?_
                · intro (c6 : r115 = 0)
                  show Q 45 [(7, (0, 0, 2, 16, x7 + 1)), (6, (0, 0, 0, 13, x6)), (5, (0, 0, 0, 196, x5)), (4, (0, 0, (-2147483648), 2147483647, x4)), (3, (0, 0, (-2147483648), 2147483647, x3)), (2, (0, 0, 0, 196, x2)), (1, (0, 0, 0, 50, a)), (0, (2, 60, 0, 0, 0))] [] M1
                  have en1 : x2 = pl_sm (pl_nv (pl_P1 (M1 68) (M1 69) (M1 64) (M1 65) (M1 63) (M1 66) (M1 67) (M1 60 6)) (M1 60 0).toNat) x6.toNat + pl_ct (fun w => x6 < w ∧ (pl_P1 (M1 68) (M1 69) (M1 64) (M1 65) (M1 63) (M1 66) (M1 67) (M1 60 6)) x6 w) (x7 + 1).toNat := by
                    rw [show (x7 + 1).toNat = x7.toNat + 1 by omega, pl_ct0 (show ¬ (fun w => x6 < w ∧ (pl_P1 (M1 68) (M1 69) (M1 64) (M1 65) (M1 63) (M1 66) (M1 67) (M1 60 6)) x6 w) ((x7.toNat : Nat) : Int) by rw [ew]; exact (fun h => by have n1 := i5.mpr ⟨h.2.2.1, h.2.2.2.2⟩; first | omega | exact h.2.2.2.1 (i5.mp (by omega)))), h4]
                  have en2 : x5 = pl_sm (pl_nv (pl_P2 (M1 64) (M1 65)) (M1 60 0).toNat) x6.toNat + pl_ct (fun w => x6 < w ∧ (pl_P2 (M1 64) (M1 65)) x6 w) (x7 + 1).toNat := by
                    rw [show (x7 + 1).toNat = x7.toNat + 1 by omega, pl_ct0 (show ¬ (fun w => x6 < w ∧ (pl_P2 (M1 64) (M1 65)) x6 w) ((x7.toNat : Nat) : Int) by rw [ew]; exact (fun h => c3 h.2.2)), h5]
                  refine hgo.2.1 45 _ [(7, (0, 0, 1, 15, x7 + 1)), (6, (0, 0, 0, 13, x6)), (5, (0, 0, 0, 196, x5)), (4, (0, 0, (-2147483648), 2147483647, x4)), (3, (0, 0, (-2147483648), 2147483647, x3)), (2, (0, 0, 0, 196, x2)), (1, (0, 0, 0, 50, a)), (0, (2, 60, 0, 0, 0))] _ _ (xa_subI rfl rfl (fun _ _ _ _ => by omega) (xa_subI rfl rfl (fun _ _ _ _ => by omega) (xa_subI rfl rfl (fun _ _ _ _ => by omega) (xa_subI rfl rfl (fun _ _ _ _ => by omega) (xa_subI rfl rfl (fun _ _ _ _ => by omega) (xa_subI rfl rfl (fun _ _ _ _ => by omega) (xa_subI rfl rfl (fun _ _ _ _ => by omega) (xa_subR rfl (xa_sub0))))))))) ?_
                  exact ih2 (x7 + 1) x5 x4 x3 x2 (by omega) en1 en2 (by omega)
                · intro (c6 : ¬ r115 = 0)
                  show xa_C xm_I A h0 _ 221 [(2, 60, 0, 0, 0), (0, 0, 0, 13, x6), (0, 0, 1, 15, x7)] M1 _
                  refine ct_areMeshed ?_
                  intro r116 (i7 : r116 = 0 ∨ r116 = 1) (i8 : r116 = 1 ↔ xm_meshed M1 x6 x7)
                  refine And.intro ?_ ?_
                  · intro (c9 : r116 = 0)
                    refine And.intro ?_ ?_
                    · intro (c10 : ¬ x2 = 0)
                      show Q 45 [(7, (0, 0, 2, 16, x7 + 1)), (2, (0, 0, 1, 197, x2 + 1)), (6, (0, 0, 0, 13, x6)), (5, (0, 0, 0, 196, x5)), (4, (0, 0, (-2147483648), 2147483647, x4)), (3, (0, 0, (-2147483648), 2147483647, x3)), (1, (0, 0, 0, 50, a)), (0, (2, 60, 0, 0, 0))] [] M1
                      have en1 : x2 + 1 = pl_sm (pl_nv (pl_P1 (M1 68) (M1 69) (M1 64) (M1 65) (M1 63) (M1 66) (M1 67) (M1 60 6)) (M1 60 0).toNat) x6.toNat + pl_ct (fun w => x6 < w ∧ (pl_P1 (M1 68) (M1 69) (M1 64) (M1 65) (M1 63) (M1 66) (M1 67) (M1 60 6)) x6 w) (x7 + 1).toNat := by
                        rw [show (x7 + 1).toNat = x7.toNat + 1 by omega, pl_ct1 (show (fun w => x6 < w ∧ (pl_P1 (M1 68) (M1 69) (M1 64) (M1 65) (M1 63) (M1 66) (M1 67) (M1 60 6)) x6 w) ((x7.toNat : Nat) : Int) by rw [ew]; exact ⟨by omega, c2, (i5.mp (by omega)).1, fun h => by have := i8.mpr h; omega, (i5.mp (by omega)).2⟩), h4]
                        omega
                      have en2 : x5 = pl_sm (pl_nv (pl_P2 (M1 64) (M1 65)) (M1 60 0).toNat) x6.toNat + pl_ct (fun w => x6 < w ∧ (pl_P2 (M1 64) (M1 65)) x6 w) (x7 + 1).toNat := by
                        rw [show (x7 + 1).toNat = x7.toNat + 1 by omega, pl_ct0 (show ¬ (fun w => x6 < w ∧ (pl_P2 (M1 64) (M1 65)) x6 w) ((x7.toNat : Nat) : Int) by rw [ew]; exact (fun h => c3 h.2.2)), h5]
                      refine hgo.2.1 45 _ [(7, (0, 0, 1, 15, x7 + 1)), (6, (0, 0, 0, 13, x6)), (5, (0, 0, 0, 196, x5)), (4, (0, 0, (-2147483648), 2147483647, x4)), (3, (0, 0, (-2147483648), 2147483647, x3)), (2, (0, 0, 0, 196, x2 + 1)), (1, (0, 0, 0, 50, a)), (0, (2, 60, 0, 0, 0))] _ _ (xa_subI rfl rfl (fun _ _ _ _ => by omega) (xa_subI rfl rfl (fun _ _ _ _ => by omega) (xa_subI rfl rfl (fun _ _ _ _ => by omega) (xa_subI rfl rfl (fun _ _ _ _ => by omega) (xa_subI rfl rfl (fun _ _ _ _ => by omega) (xa_subI rfl rfl (fun _ _ _ _ => by omega) (xa_subI rfl rfl (fun _ _ _ _ => by omega) (xa_subR rfl (xa_sub0))))))))) ?_
                      exact ih2 (x7 + 1) x5 x4 x3 (x2 + 1) (by omega) en1 en2 (by omega)
                    · intro (c10 : x2 = 0)
                      show Q 45 [(7, (0, 0, 2, 16, x7 + 1)), (2, (0, 0, 1, 197, x2 + 1)), (4, (0, 0, 1, 15, x7)), (3, (0, 0, 0, 13, x6)), (6, (0, 0, 0, 13, x6)), (5, (0, 0, 0, 196, x5)), (1, (0, 0, 0, 50, a)), (0, (2, 60, 0, 0, 0))] [] M1
                      have en1 : x2 + 1 = pl_sm (pl_nv (pl_P1 (M1 68) (M1 69) (M1 64) (M1 65) (M1 63) (M1 66) (M1 67) (M1 60 6)) (M1 60 0).toNat) x6.toNat + pl_ct (fun w => x6 < w ∧ (pl_P1 (M1 68) (M1 69) (M1 64) (M1 65) (M1 63) (M1 66) (M1 67) (M1 60 6)) x6 w) (x7 + 1).toNat := by
                        rw [show (x7 + 1).toNat = x7.toNat + 1 by omega, pl_ct1 (show (fun w => x6 < w ∧ (pl_P1 (M1 68) (M1 69) (M1 64) (M1 65) (M1 63) (M1 66) (M1 67) (M1 60 6)) x6 w) ((x7.toNat : Nat) : Int) by rw [ew]; exact ⟨by omega, c2, (i5.mp (by omega)).1, fun h => by have := i8.mpr h; omega, (i5.mp (by omega)).2⟩), h4]
                        omega
                      have en2 : x5 = pl_sm (pl_nv (pl_P2 (M1 64) (M1 65)) (M1 60 0).toNat) x6.toNat + pl_ct (fun w => x6 < w ∧ (pl_P2 (M1 64) (M1 65)) x6 w) (x7 + 1).toNat := by
                        rw [show (x7 + 1).toNat = x7.toNat + 1 by omega, pl_ct0 (show ¬ (fun w => x6 < w ∧ (pl_P2 (M1 64) (M1 65)) x6 w) ((x7.toNat : Nat) : Int) by rw [ew]; exact (fun h => c3 h.2.2)), h5]
                      refine hgo.2.1 45 _ [(7, (0, 0, 1, 15, x7 + 1)), (6, (0, 0, 0, 13, x6)), (5, (0, 0, 0, 196, x5)), (4, (0, 0, (-2147483648), 2147483647, x7)), (3, (0, 0, (-2147483648), 2147483647, x6)), (2, (0, 0, 0, 196, x2 + 1)), (1, (0, 0, 0, 50, a)), (0, (2, 60, 0, 0, 0))] _ _ (xa_subI rfl rfl (fun _ _ _ _ => by omega) (xa_subI rfl rfl (fun _ _ _ _ => by omega) (xa_subI rfl rfl (fun _ _ _ _ => by omega) (xa_subI rfl rfl (fun _ _ _ _ => by omega) (xa_subI rfl rfl (fun _ _ _ _ => by omega) (xa_subI rfl rfl (fun _ _ _ _ => by omega) (xa_subI rfl rfl (fun _ _ _ _ => by omega) (xa_subR rfl (xa_sub0))))))))) ?_
                      exact ih2 (x7 + 1) x5 x7 x6 (x2 + 1) (by omega) en1 en2 (by omega)
                  · intro (c9 : ¬ r116 = 0)
                    show Q 45 [(7, (0, 0, 2, 16, x7 + 1)), (6, (0, 0, 0, 13, x6)), (5, (0, 0, 0, 196, x5)), (4, (0, 0, (-2147483648), 2147483647, x4)), (3, (0, 0, (-2147483648), 2147483647, x3)), (2, (0, 0, 0, 196, x2)), (1, (0, 0, 0, 50, a)), (0, (2, 60, 0, 0, 0))] [] M1
                    have en1 : x2 = pl_sm (pl_nv (pl_P1 (M1 68) (M1 69) (M1 64) (M1 65) (M1 63) (M1 66) (M1 67) (M1 60 6)) (M1 60 0).toNat) x6.toNat + pl_ct (fun w => x6 < w ∧ (pl_P1 (M1 68) (M1 69) (M1 64) (M1 65) (M1 63) (M1 66) (M1 67) (M1 60 6)) x6 w) (x7 + 1).toNat := by
                      rw [show (x7 + 1).toNat = x7.toNat + 1 by omega, pl_ct0 (show ¬ (fun w => x6 < w ∧ (pl_P1 (M1 68) (M1 69) (M1 64) (M1 65) (M1 63) (M1 66) (M1 67) (M1 60 6)) x6 w) ((x7.toNat : Nat) : Int) by rw [ew]; exact (fun h => by have n1 := i5.mpr ⟨h.2.2.1, h.2.2.2.2⟩; first | omega | exact h.2.2.2.1 (i8.mp (by omega)))), h4]
                    have en2 : x5 = pl_sm (pl_nv (pl_P2 (M1 64) (M1 65)) (M1 60 0).toNat) x6.toNat + pl_ct (fun w => x6 < w ∧ (pl_P2 (M1 64) (M1 65)) x6 w) (x7 + 1).toNat := by
                      rw [show (x7 + 1).toNat = x7.toNat + 1 by omega, pl_ct0 (show ¬ (fun w => x6 < w ∧ (pl_P2 (M1 64) (M1 65)) x6 w) ((x7.toNat : Nat) : Int) by rw [ew]; exact (fun h => c3 h.2.2)), h5]
                    refine hgo.2.1 45 _ [(7, (0, 0, 1, 15, x7 + 1)), (6, (0, 0, 0, 13, x6)), (5, (0, 0, 0, 196, x5)), (4, (0, 0, (-2147483648), 2147483647, x4)), (3, (0, 0, (-2147483648), 2147483647, x3)), (2, (0, 0, 0, 196, x2)), (1, (0, 0, 0, 50, a)), (0, (2, 60, 0, 0, 0))] _ _ (xa_subI rfl rfl (fun _ _ _ _ => by omega) (xa_subI rfl rfl (fun _ _ _ _ => by omega) (xa_subI rfl rfl (fun _ _ _ _ => by omega) (xa_subI rfl rfl (fun _ _ _ _ => by omega) (xa_subI rfl rfl (fun _ _ _ _ => by omega) (xa_subI rfl rfl (fun _ _ _ _ => by omega) (xa_subI rfl rfl (fun _ _ _ _ => by omega) (xa_subR rfl (xa_sub0))))))))) ?_
                    exact ih2 (x7 + 1) x5 x4 x3 x2 (by omega) en1 en2 (by omega)
              · intro (c3 : (M1 64 x6) = (M1 64 x7))
                show xa_C xm_I A h0 _ 264 [(2, 60, 0, 0, 0), (0, 0, 0, 13, x6), (0, 0, 1, 15, x7)] M1 _
                refine ct_areNearF (by omega) (by omega) (by omega) (by omega) ?_
                intro r117 (i11 : r117 = 0 ∨ r117 = 1) (i12 : r117 = 1 ↔ xm_near M1 x6 x7)
                refine And.intro ?_ ?_
                · intro (c13 : r117 = 0)
                  show Q 45 [(7, (0, 0, 2, 16, x7 + 1)), (5, (0, 0, 1, 197, x5 + 1)), (6, (0, 0, 0, 13, x6)), (4, (0, 0, (-2147483648), 2147483647, x4)), (3, (0, 0, (-2147483648), 2147483647, x3)), (2, (0, 0, 0, 196, x2)), (1, (0, 0, 0, 50, a)), (0, (2, 60, 0, 0, 0))] [] M1
                  have en1 : x2 = pl_sm (pl_nv (pl_P1 (M1 68) (M1 69) (M1 64) (M1 65) (M1 63) (M1 66) (M1 67) (M1 60 6)) (M1 60 0).toNat) x6.toNat + pl_ct (fun w => x6 < w ∧ (pl_P1 (M1 68) (M1 69) (M1 64) (M1 65) (M1 63) (M1 66) (M1 67) (M1 60 6)) x6 w) (x7 + 1).toNat := by
                    rw [show (x7 + 1).toNat = x7.toNat + 1 by omega, pl_ct0 (show ¬ (fun w => x6 < w ∧ (pl_P1 (M1 68) (M1 69) (M1 64) (M1 65) (M1 63) (M1 66) (M1 67) (M1 60 6)) x6 w) ((x7.toNat : Nat) : Int) by rw [ew]; exact (fun h => by have n1 := i12.mpr ⟨h.2.2.1, h.2.2.2.2⟩; first | omega | exact h.2.2.2.1 (i12.mp (by omega)))), h4]
                  have en2 : x5 + 1 = pl_sm (pl_nv (pl_P2 (M1 64) (M1 65)) (M1 60 0).toNat) x6.toNat + pl_ct (fun w => x6 < w ∧ (pl_P2 (M1 64) (M1 65)) x6 w) (x7 + 1).toNat := by
                    rw [show (x7 + 1).toNat = x7.toNat + 1 by omega, pl_ct1 (show (fun w => x6 < w ∧ (pl_P2 (M1 64) (M1 65)) x6 w) ((x7.toNat : Nat) : Int) by rw [ew]; exact ⟨by omega, c2, c3⟩), h5]
                    omega
                  refine hgo.2.1 45 _ [(7, (0, 0, 1, 15, x7 + 1)), (6, (0, 0, 0, 13, x6)), (5, (0, 0, 0, 196, x5 + 1)), (4, (0, 0, (-2147483648), 2147483647, x4)), (3, (0, 0, (-2147483648), 2147483647, x3)), (2, (0, 0, 0, 196, x2)), (1, (0, 0, 0, 50, a)), (0, (2, 60, 0, 0, 0))] _ _ (xa_subI rfl rfl (fun _ _ _ _ => by omega) (xa_subI rfl rfl (fun _ _ _ _ => by omega) (xa_subI rfl rfl (fun _ _ _ _ => by omega) (xa_subI rfl rfl (fun _ _ _ _ => by omega) (xa_subI rfl rfl (fun _ _ _ _ => by omega) (xa_subI rfl rfl (fun _ _ _ _ => by omega) (xa_subI rfl rfl (fun _ _ _ _ => by omega) (xa_subR rfl (xa_sub0))))))))) ?_
                  exact ih2 (x7 + 1) (x5 + 1) x4 x3 x2 (by omega) en1 en2 (by omega)
                · intro (c13 : ¬ r117 = 0)
                  show xa_C xm_I A h0 _ 221 [(2, 60, 0, 0, 0), (0, 0, 0, 13, x6), (0, 0, 1, 15, x7)] M1 _
                  refine ct_areMeshed ?_
                  intro r118 (i14 : r118 = 0 ∨ r118 = 1) (i15 : r118 = 1 ↔ xm_meshed M1 x6 x7)
                  refine And.intro ?_ ?_
                  · intro (c16 : r118 = 0)
                    refine And.intro ?_ ?_
                    · intro (c17 : ¬ x2 = 0)
                      show Q 45 [(7, (0, 0, 2, 16, x7 + 1)), (2, (0, 0, 1, 197, x2 + 1)), (5, (0, 0, 1, 197, x5 + 1)), (6, (0, 0, 0, 13, x6)), (4, (0, 0, (-2147483648), 2147483647, x4)), (3, (0, 0, (-2147483648), 2147483647, x3)), (1, (0, 0, 0, 50, a)), (0, (2, 60, 0, 0, 0))] [] M1
                      have en1 : x2 + 1 = pl_sm (pl_nv (pl_P1 (M1 68) (M1 69) (M1 64) (M1 65) (M1 63) (M1 66) (M1 67) (M1 60 6)) (M1 60 0).toNat) x6.toNat + pl_ct (fun w => x6 < w ∧ (pl_P1 (M1 68) (M1 69) (M1 64) (M1 65) (M1 63) (M1 66) (M1 67) (M1 60 6)) x6 w) (x7 + 1).toNat := by
                        rw [show (x7 + 1).toNat = x7.toNat + 1 by omega, pl_ct1 (show (fun w => x6 < w ∧ (pl_P1 (M1 68) (M1 69) (M1 64) (M1 65) (M1 63) (M1 66) (M1 67) (M1 60 6)) x6 w) ((x7.toNat : Nat) : Int) by rw [ew]; exact ⟨by omega, c2, (i12.mp (by omega)).1, fun h => by have := i15.mpr h; omega, (i12.mp (by omega)).2⟩), h4]
                        omega
                      have en2 : x5 + 1 = pl_sm (pl_nv (pl_P2 (M1 64) (M1 65)) (M1 60 0).toNat) x6.toNat + pl_ct (fun w => x6 < w ∧ (pl_P2 (M1 64) (M1 65)) x6 w) (x7 + 1).toNat := by
                        rw [show (x7 + 1).toNat = x7.toNat + 1 by omega, pl_ct1 (show (fun w => x6 < w ∧ (pl_P2 (M1 64) (M1 65)) x6 w) ((x7.toNat : Nat) : Int) by rw [ew]; exact ⟨by omega, c2, c3⟩), h5]
                        omega
                      refine hgo.2.1 45 _ [(7, (0, 0, 1, 15, x7 + 1)), (6, (0, 0, 0, 13, x6)), (5, (0, 0, 0, 196, x5 + 1)), (4, (0, 0, (-2147483648), 2147483647, x4)), (3, (0, 0, (-2147483648), 2147483647, x3)), (2, (0, 0, 0, 196, x2 + 1)), (1, (0, 0, 0, 50, a)), (0, (2, 60, 0, 0, 0))] _ _ (xa_subI rfl rfl (fun _ _ _ _ => by omega) (xa_subI rfl rfl (fun _ _ _ _ => by omega) (xa_subI rfl rfl (fun _ _ _ _ => by omega) (xa_subI rfl rfl (fun _ _ _ _ => by omega) (xa_subI rfl rfl (fun _ _ _ _ => by omega) (xa_subI rfl rfl (fun _ _ _ _ => by omega) (xa_subI rfl rfl (fun _ _ _ _ => by omega) (xa_subR rfl (xa_sub0))))))))) ?_
                      exact ih2 (x7 + 1) (x5 + 1) x4 x3 (x2 + 1) (by omega) en1 en2 (by omega)
                    · intro (c17 : x2 = 0)
                      show Q 45 [(7, (0, 0, 2, 16, x7 + 1)), (2, (0, 0, 1, 197, x2 + 1)), (4, (0, 0, 1, 15, x7)), (3, (0, 0, 0, 13, x6)), (5, (0, 0, 1, 197, x5 + 1)), (6, (0, 0, 0, 13, x6)), (1, (0, 0, 0, 50, a)), (0, (2, 60, 0, 0, 0))] [] M1
                      have en1 : x2 + 1 = pl_sm (pl_nv (pl_P1 (M1 68) (M1 69) (M1 64) (M1 65) (M1 63) (M1 66) (M1 67) (M1 60 6)) (M1 60 0).toNat) x6.toNat + pl_ct (fun w => x6 < w ∧ (pl_P1 (M1 68) (M1 69) (M1 64) (M1 65) (M1 63) (M1 66) (M1 67) (M1 60 6)) x6 w) (x7 + 1).toNat := by
                        rw [show (x7 + 1).toNat = x7.toNat + 1 by omega, pl_ct1 (show (fun w => x6 < w ∧ (pl_P1 (M1 68) (M1 69) (M1 64) (M1 65) (M1 63) (M1 66) (M1 67) (M1 60 6)) x6 w) ((x7.toNat : Nat) : Int) by rw [ew]; exact ⟨by omega, c2, (i12.mp (by omega)).1, fun h => by have := i15.mpr h; omega, (i12.mp (by omega)).2⟩), h4]
                        omega
                      have en2 : x5 + 1 = pl_sm (pl_nv (pl_P2 (M1 64) (M1 65)) (M1 60 0).toNat) x6.toNat + pl_ct (fun w => x6 < w ∧ (pl_P2 (M1 64) (M1 65)) x6 w) (x7 + 1).toNat := by
                        rw [show (x7 + 1).toNat = x7.toNat + 1 by omega, pl_ct1 (show (fun w => x6 < w ∧ (pl_P2 (M1 64) (M1 65)) x6 w) ((x7.toNat : Nat) : Int) by rw [ew]; exact ⟨by omega, c2, c3⟩), h5]
                        omega
                      refine hgo.2.1 45 _ [(7, (0, 0, 1, 15, x7 + 1)), (6, (0, 0, 0, 13, x6)), (5, (0, 0, 0, 196, x5 + 1)), (4, (0, 0, (-2147483648), 2147483647, x7)), (3, (0, 0, (-2147483648), 2147483647, x6)), (2, (0, 0, 0, 196, x2 + 1)), (1, (0, 0, 0, 50, a)), (0, (2, 60, 0, 0, 0))] _ _ (xa_subI rfl rfl (fun _ _ _ _ => by omega) (xa_subI rfl rfl (fun _ _ _ _ => by omega) (xa_subI rfl rfl (fun _ _ _ _ => by omega) (xa_subI rfl rfl (fun _ _ _ _ => by omega) (xa_subI rfl rfl (fun _ _ _ _ => by omega) (xa_subI rfl rfl (fun _ _ _ _ => by omega) (xa_subI rfl rfl (fun _ _ _ _ => by omega) (xa_subR rfl (xa_sub0))))))))) ?_
                      exact ih2 (x7 + 1) (x5 + 1) x7 x6 (x2 + 1) (by omega) en1 en2 (by omega)
                  · intro (c16 : ¬ r118 = 0)
                    show Q 45 [(7, (0, 0, 2, 16, x7 + 1)), (5, (0, 0, 1, 197, x5 + 1)), (6, (0, 0, 0, 13, x6)), (4, (0, 0, (-2147483648), 2147483647, x4)), (3, (0, 0, (-2147483648), 2147483647, x3)), (2, (0, 0, 0, 196, x2)), (1, (0, 0, 0, 50, a)), (0, (2, 60, 0, 0, 0))] [] M1
                    have en1 : x2 = pl_sm (pl_nv (pl_P1 (M1 68) (M1 69) (M1 64) (M1 65) (M1 63) (M1 66) (M1 67) (M1 60 6)) (M1 60 0).toNat) x6.toNat + pl_ct (fun w => x6 < w ∧ (pl_P1 (M1 68) (M1 69) (M1 64) (M1 65) (M1 63) (M1 66) (M1 67) (M1 60 6)) x6 w) (x7 + 1).toNat := by
                      rw [show (x7 + 1).toNat = x7.toNat + 1 by omega, pl_ct0 (show ¬ (fun w => x6 < w ∧ (pl_P1 (M1 68) (M1 69) (M1 64) (M1 65) (M1 63) (M1 66) (M1 67) (M1 60 6)) x6 w) ((x7.toNat : Nat) : Int) by rw [ew]; exact (fun h => by have n1 := i12.mpr ⟨h.2.2.1, h.2.2.2.2⟩; first | omega | exact h.2.2.2.1 (i15.mp (by omega)))), h4]
                    have en2 : x5 + 1 = pl_sm (pl_nv (pl_P2 (M1 64) (M1 65)) (M1 60 0).toNat) x6.toNat + pl_ct (fun w => x6 < w ∧ (pl_P2 (M1 64) (M1 65)) x6 w) (x7 + 1).toNat := by
                      rw [show (x7 + 1).toNat = x7.toNat + 1 by omega, pl_ct1 (show (fun w => x6 < w ∧ (pl_P2 (M1 64) (M1 65)) x6 w) ((x7.toNat : Nat) : Int) by rw [ew]; exact ⟨by omega, c2, c3⟩), h5]
                      omega
                    refine hgo.2.1 45 _ [(7, (0, 0, 1, 15, x7 + 1)), (6, (0, 0, 0, 13, x6)), (5, (0, 0, 0, 196, x5 + 1)), (4, (0, 0, (-2147483648), 2147483647, x4)), (3, (0, 0, (-2147483648), 2147483647, x3)), (2, (0, 0, 0, 196, x2)), (1, (0, 0, 0, 50, a)), (0, (2, 60, 0, 0, 0))] _ _ (xa_subI rfl rfl (fun _ _ _ _ => by omega) (xa_subI rfl rfl (fun _ _ _ _ => by omega) (xa_subI rfl rfl (fun _ _ _ _ => by omega) (xa_subI rfl rfl (fun _ _ _ _ => by omega) (xa_subI rfl rfl (fun _ _ _ _ => by omega) (xa_subI rfl rfl (fun _ _ _ _ => by omega) (xa_subI rfl rfl (fun _ _ _ _ => by omega) (xa_subR rfl (xa_sub0))))))))) ?_
                    exact ih2 (x7 + 1) (x5 + 1) x4 x3 x2 (by omega) en1 en2 (by omega)
            · intro (c2 : ¬ (M1 65 x6) = (M1 65 x7))
              show Q 45 [(7, (0, 0, 2, 16, x7 + 1)), (6, (0, 0, 0, 13, x6)), (5, (0, 0, 0, 196, x5)), (4, (0, 0, (-2147483648), 2147483647, x4)), (3, (0, 0, (-2147483648), 2147483647, x3)), (2, (0, 0, 0, 196, x2)), (1, (0, 0, 0, 50, a)), (0, (2, 60, 0, 0, 0))] [] M1
              have en1 : x2 = pl_sm (pl_nv (pl_P1 (M1 68) (M1 69) (M1 64) (M1 65) (M1 63) (M1 66) (M1 67) (M1 60 6)) (M1 60 0).toNat) x6.toNat + pl_ct (fun w => x6 < w ∧ (pl_P1 (M1 68) (M1 69) (M1 64) (M1 65) (M1 63) (M1 66) (M1 67) (M1 60 6)) x6 w) (x7 + 1).toNat := by
                rw [show (x7 + 1).toNat = x7.toNat + 1 by omega, pl_ct0 (show ¬ (fun w => x6 < w ∧ (pl_P1 (M1 68) (M1 69) (M1 64) (M1 65) (M1 63) (M1 66) (M1 67) (M1 60 6)) x6 w) ((x7.toNat : Nat) : Int) by rw [ew]; exact (fun h => c2 h.2.1)), h4]
              have en2 : x5 = pl_sm (pl_nv (pl_P2 (M1 64) (M1 65)) (M1 60 0).toNat) x6.toNat + pl_ct (fun w => x6 < w ∧ (pl_P2 (M1 64) (M1 65)) x6 w) (x7 + 1).toNat := by
                rw [show (x7 + 1).toNat = x7.toNat + 1 by omega, pl_ct0 (show ¬ (fun w => x6 < w ∧ (pl_P2 (M1 64) (M1 65)) x6 w) ((x7.toNat : Nat) : Int) by rw [ew]; exact (fun h => c2 h.2.1)), h5]
              refine hgo.2.1 45 _ [(7, (0, 0, 1, 15, x7 + 1)), (6, (0, 0, 0, 13, x6)), (5, (0, 0, 0, 196, x5)), (4, (0, 0, (-2147483648), 2147483647, x4)), (3, (0, 0, (-2147483648), 2147483647, x3)), (2, (0, 0, 0, 196, x2)), (1, (0, 0, 0, 50, a)), (0, (2, 60, 0, 0, 0))] _ _ (xa_subI rfl rfl (fun _ _ _ _ => by omega) (xa_subI rfl rfl (fun _ _ _ _ => by omega) (xa_subI rfl rfl (fun _ _ _ _ => by omega) (xa_subI rfl rfl (fun _ _ _ _ => by omega) (xa_subI rfl rfl (fun _ _ _ _ => by omega) (xa_subI rfl rfl (fun _ _ _ _ => by omega) (xa_subI rfl rfl (fun _ _ _ _ => by omega) (xa_subR rfl (xa_sub0))))))))) ?_
              exact ih2 (x7 + 1) x5 x4 x3 x2 (by omega) en1 en2 (by omega)
      refine hgo.1 22 [30, 45, 165] 30 _ _ _ ?_
      refine And.intro ?_ ?_
      · intro (c1 : (M1 60 0) ≤ x6)
        show Q 165 [(10, (0, 0, (-1), 15, (M1 60 6) - 1)), (9, (0, 0, (-1), (-1), (-1))), (8, (0, 0, 0, 0, 0)), (7, (0, 0, (-1), (-1), (-1))), (6, (0, 0, 0, 0, 0)), (5, (0, 0, 0, 196, x5)), (4, (0, 0, (-2147483648), 2147483647, x4)), (3, (0, 0, (-2147483648), 2147483647, x3)), (2, (0, 0, 0, 196, x2)), (1, (0, 0, 0, 50, a)), (0, (2, 60, 0, 0, 0))] [] M1
        refine hgo.2.1 165 _ [(10, (0, 0, (-1), 15, (M1 60 6) - 1)), (9, (0, 0, (-2147483648), 2147483647, (-1))), (8, (0, 0, 0, 16, 0)), (7, (0, 0, (-2147483648), 2147483647, (-1))), (6, (0, 0, 0, 16, 0)), (5, (0, 0, 0, 196, x5)), (4, (0, 0, (-2147483648), 2147483647, x4)), (3, (0, 0, (-2147483648), 2147483647, x3)), (2, (0, 0, 0, 196, x2)), (1, (0, 0, 0, 50, a)), (0, (2, 60, 0, 0, 0))] _ _ (xa_subI rfl rfl (fun _ _ _ _ => by omega) (xa_subI rfl rfl (fun _ _ _ _ => by omega) (xa_subI rfl rfl (fun _ _ _ _ => by omega) (xa_subI rfl rfl (fun _ _ _ _ => by omega) (xa_subI rfl rfl (fun _ _ _ _ => by omega) (xa_subI rfl rfl (fun _ _ _ _ => by omega) (xa_subI rfl rfl (fun _ _ _ _ => by omega) (xa_subI rfl rfl (fun _ _ _ _ => by omega) (xa_subI rfl rfl (fun _ _ _ _ => by omega) (xa_subI rfl rfl (fun _ _ _ _ => by omega) (xa_subR rfl (xa_sub0)))))))))))) ?_
        exact loop2 x5 x4 x3 x2 (by rw [h4, show x6 = M1 60 0 by omega]) (by rw [h5, show x6 = M1 60 0 by omega]) 17 ((M1 60 6) - 1) (-1) 0 (-1) 0 (by omega) (by rw [show M1 60 6 - 1 + 1 = M1 60 6 by omega, Int.zero_add]) (by rw [show M1 60 6 - 1 + 1 = M1 60 6 by omega, Int.zero_add]) (by omega)
      · intro (c1 : x6 < (M1 60 0))
        show Q 45 [(7, (0, 0, 1, 15, x6 + 1)), (6, (0, 0, 0, 14, x6)), (5, (0, 0, 0, 196, x5)), (4, (0, 0, (-2147483648), 2147483647, x4)), (3, (0, 0, (-2147483648), 2147483647, x3)), (2, (0, 0, 0, 196, x2)), (1, (0, 0, 0, 50, a)), (0, (2, 60, 0, 0, 0))] [] M1
        have hz1 : pl_ct (fun w => x6 < w ∧ (pl_P1 (M1 68) (M1 69) (M1 64) (M1 65) (M1 63) (M1 66) (M1 67) (M1 60 6)) x6 w) (x6 + 1).toNat = 0 := pl_ct_z _ (fun k hk h => by have := h.1; omega)
        have hz2 : pl_ct (fun w => x6 < w ∧ (pl_P2 (M1 64) (M1 65)) x6 w) (x6 + 1).toNat = 0 := pl_ct_z _ (fun k hk h => by have := h.1; omega)
        refine hgo.2.1 45 _ [(7, (0, 0, 1, 15, x6 + 1)), (6, (0, 0, 0, 13, x6)), (5, (0, 0, 0, 196, x5)), (4, (0, 0, (-2147483648), 2147483647, x4)), (3, (0, 0, (-2147483648), 2147483647, x3)), (2, (0, 0, 0, 196, x2)), (1, (0, 0, 0, 50, a)), (0, (2, 60, 0, 0, 0))] _ _ (xa_subI rfl rfl (fun _ _ _ _ => by omega) (xa_subI rfl rfl (fun _ _ _ _ => by omega) (xa_subI rfl rfl (fun _ _ _ _ => by omega) (xa_subI rfl rfl (fun _ _ _ _ => by omega) (xa_subI rfl rfl (fun _ _ _ _ => by omega) (xa_subI rfl rfl (fun _ _ _ _ => by omega) (xa_subI rfl rfl (fun _ _ _ _ => by omega) (xa_subR rfl (xa_sub0))))))))) ?_
        exact inner (by omega) 16 (x6 + 1) x5 x4 x3 x2 (by omega) (by rw [hz1, ← h4]; omega) (by rw [hz2, ← h5]; omega) (by omega)
  refine hgo.1 23 [30, 45, 165] 0 _ _ _ ?_
  show xa_C xm_I A h0 _ 214 [(0, 0, (-2147483648), 2147483647, a), (0, 0, 0, 0, 0), (0, 0, 50, 50, 50)] (xa_up M 60 21 0) _
  refine ct_in ?_ ?_
  · intro (i1 : 0 ≤ a ∧ a ≤ 50)
    show Q 30 [(6, (0, 0, 0, 0, 0)), (5, (0, 0, 0, 0, 0)), (4, (0, 0, (-1), (-1), (-1))), (3, (0, 0, (-1), (-1), (-1))), (2, (0, 0, 0, 0, 0)), (0, (2, 60, 0, 0, 0)), (1, (0, 0, (-2147483648), 2147483647, a))] [] (xa_up M 60 21 0)
    refine hgo.2.1 30 _ [(6, (0, 0, 0, 14, 0)), (5, (0, 0, 0, 196, 0)), (4, (0, 0, (-2147483648), 2147483647, (-1))), (3, (0, 0, (-2147483648), 2147483647, (-1))), (2, (0, 0, 0, 196, 0)), (1, (0, 0, 0, 50, a)), (0, (2, 60, 0, 0, 0))] _ _ (xa_subI rfl rfl (fun _ _ _ _ => by omega) (xa_subI rfl rfl (fun _ _ _ _ => by omega) (xa_subI rfl rfl (fun _ _ _ _ => by omega) (xa_subI rfl rfl (fun _ _ _ _ => by omega) (xa_subI rfl rfl (fun _ _ _ _ => by omega) (xa_subI rfl rfl (fun _ _ _ _ => by omega) (xa_subR rfl (xa_sub0)))))))) ?_
    exact loops (xa_up M 60 21 0) (xm_cor_f (by omega) xm_cor_r) (by omega) 15 0 0 (-1) (-1) 0 (by rw [xa_up_ne (by omega)]; omega) rfl rfl (by omega)
  · intro (i2 : ¬ (0 ≤ a ∧ a ≤ 50))
    show xa_wk post (some (0, 0, (-1), (-1), (-1))) (xa_up M 60 21 0)
    exact xa_wkI (-1) rfl (fun _ _ => by omega) (k0 (by omega) _ (xm_cor_f (by omega) xm_cor_r) (xa_up_ne (by omega)))
theorem rz_p140 (A : Nat → Nat) (cmp : Bool) : iv_pair (rz_J A) A 140 263 [0] cmp false := rz_armV (fun W b h as M hJ hM hInv hs hR hz => by
  obtain ⟨m1, ys, rfl, -, hs⟩ := iv_spc hs
  obtain rfl := iv_sp0 hs
  have b0 := xm_f0 (xa_H_Mok hM)
  have b6 := xm_f6 (xa_H_Mok hM)
  have r1 : iv_num h 1 9 = M 60 0 := hR.1.1
  have r2 : iv_num h 1 10 = M 60 6 := hR.1.2.1
  have r3 : ∀ i, 0 ≤ i → i < 14 → iv_num h 2 i = M 61 i ∧ iv_num h 3 i = M 62 i ∧ iv_num h 5 i = M 64 i ∧ iv_num h 6 i = M 65 i ∧ iv_num h 4 i = M 63 i := hR.1.2.2.1
  have r4 : ∀ i, 0 ≤ i → i < 16 → iv_num h 7 i = M 66 i ∧ iv_num h 8 i = M 67 i := hR.1.2.2.2
  have hS := hR.2
  have hX : lm_X (xj (iv_num h) M) := hR.2.2
  have hMk := xa_H_Mok hM
  have p9 : ∀ i, 0 ≤ i → i < 10 → iv_num h 9 i = M 68 i := hX.2.2.2.2.2.2.2.2.2.2.2.2.2.2.1
  have p10 : ∀ i, 0 ≤ i → i < 10 → iv_num h 10 i = M 69 i := hX.2.2.2.2.2.2.2.2.2.2.2.2.2.2.2
  have q9 : ∀ i, 0 ≤ i → i < 10 → -500 ≤ iv_num h 9 i ∧ iv_num h 9 i ≤ 500 := fun i i0 i1 => by rw [p9 i i0 i1]; exact xm_t68 hMk i i0 i1
  have q10 : ∀ i, 0 ≤ i → i < 10 → -500 ≤ iv_num h 10 i ∧ iv_num h 10 i ≤ 500 := fun i i0 i1 => by rw [p10 i i0 i1]; exact xm_t69 hMk i i0 i1
  have q5 : ∀ i, 0 ≤ i → i < 14 → 0 ≤ iv_num h 5 i ∧ iv_num h 5 i ≤ 9 := fun i i0 i1 => by rw [(r3 i i0 i1).2.2.1]; exact xm_t64 hMk i i0 i1
  have q6 : ∀ i, 0 ≤ i → i < 14 → 0 ≤ iv_num h 6 i ∧ iv_num h 6 i ≤ 9 := fun i i0 i1 => by rw [(r3 i i0 i1).2.2.2.1]; exact xm_t65 hMk i i0 i1
  have o66 : ∀ i, 0 ≤ i → i < M 60 6 → 0 ≤ M 66 i ∧ M 66 i ≤ 13 := fun i i0 i1 => xm_t66 hMk i i0 (by omega)
  have o67 : ∀ i, 0 ≤ i → i < M 60 6 → 0 ≤ M 67 i ∧ M 67 i ≤ 13 := fun i i0 i1 => xm_t67 hMk i i0 (by omega)
  have e : pl_all (iv_num h 9) (iv_num h 10) (iv_num h 5) (iv_num h 6) (iv_num h 4) (iv_num h 7) (iv_num h 8) (iv_num h 1 9) (iv_num h 1 10) m1.toInt = pl_all (M 68) (M 69) (M 64) (M 65) (M 63) (M 66) (M 67) (M 60 0) (M 60 6) m1.toInt := by
    rw [r1, r2]
    exact pl_all_e b0.2 b6.2 p9 p10 (fun i i0 i1 => (r3 i i0 i1).2.2.1) (fun i i0 i1 => (r3 i i0 i1).2.2.2.1) (fun i i0 i1 => (r3 i i0 i1).2.2.2.2) (fun i i0 i1 => (r4 i i0 i1).1) (fun i i0 i1 => (r4 i i0 i1).2) (fun i i0 i1 => xm_t64 hMk i i0 i1) o66 o67
  have hF : pl_F (iv_num h) := ⟨by omega, by omega, fun k k0 k1 => by
    have a1 := (r4 k k0 (by omega)).1
    have a2 := (r4 k k0 (by omega)).2
    have u1 := o66 k k0 (by omega)
    have u2 := o67 k k0 (by omega)
    omega, q9, q10, q5, q6, fun i i0 i1 => by
    have a1 := (r3 i i0 i1).2.2.2.2
    have a2 := xm_t63 hMk i i0 i1
    omega⟩
  have hc := rx_140 (b := b) (A := A) (h0 := h) (d := 53) (M := iv_num h) (l1 := -2147483648) (u1 := 2147483647) (sl := m1.toInt) (post := fun o M1 => ∃ lo hi n, o = some (0, 0, lo, hi, n) ∧ ((pl_An m1.toInt (pl_all (M 68) (M 69) (M 64) (M 65) (M 63) (M 66) (M 67) (M 60 0) (M 60 6) m1.toInt) n ∧ pl_K (iv_num h) M1) ∧ rz_c (0 ≤ m1.toInt ∧ m1.toInt ≤ 50) (iv_num h 48 1) (M1 48 1) 8)) hF (fun hs M1 hK z => ⟨_, _, _, rfl, ⟨Or.inl ⟨hs, e⟩, hK⟩, Or.inl ⟨hs, z⟩⟩) (fun hs => ⟨_, _, _, rfl, ⟨Or.inr ⟨hs, rfl⟩, fun _ _ _ _ => rfl⟩, Or.inr ⟨hs, rfl⟩⟩)
  have hm := fun (h1 : g_H) => rm_room (A := A) (h0 := h1) (d := 57) (M := M) (l1 := -2147483648) (u1 := 2147483647) (a := m1.toInt) (post := fun o M2 => (∃ lo hi n, o = some (0, 0, lo, hi, n) ∧ ((pl_An m1.toInt (pl_all (M 68) (M 69) (M 64) (M 65) (M 63) (M 66) (M 67) (M 60 0) (M 60 6) m1.toInt) n ∧ xm_cor M M2) ∧ rz_c (0 ≤ m1.toInt ∧ m1.toInt ≤ 50) (M 60 20) (M2 60 20) 8)) ∧ xm_Inv M2) hInv (fun hs M2 hc z => ⟨⟨_, _, _, rfl, ⟨Or.inl ⟨hs, rfl⟩, hc⟩, Or.inl ⟨hs, z⟩⟩, xm_Inv_cor hc hInv⟩) (fun hs M2 hc z => ⟨⟨_, _, _, rfl, ⟨Or.inr ⟨hs, rfl⟩, hc⟩, Or.inr ⟨hs, z⟩⟩, xm_Inv_cor hc hInv⟩)
  refine ⟨[(2, 0, 0, 0, 0), (0, 0, -2147483648, 2147483647, m1.toInt)], [(2, 60, 0, 0, 0), (0, 0, -2147483648, 2147483647, m1.toInt)], _, _, ⟨rfl, iv_i m1, trivial⟩, ⟨rfl, iv_i m1, trivial⟩, fun n n' M1 M2 h1 h2 => ⟨fun _ => ?_, fun x => h2.1.2 104 x (by unfold xm_scr; omega), fun x => h2.1.2 105 x (by unfold xm_scr; omega), xq_lmR hR (fun q j hC hq => h1.1.2 q j (by first | (have t9 := lm_Cq hC; omega) | (unfold lm_C at hC; omega)) (by first | (have t9 := lm_Cq hC; omega) | (unfold lm_C at hC; omega))) h2.1.2, rz_c1 h1.2 h2.2 Iff.rfl hz⟩, hc, hm⟩
  rcases h1.1.1 with ⟨a1, a2⟩ | ⟨a1, a2⟩
  · rcases h2.1.1 with ⟨c1, c2⟩ | ⟨c1, c2⟩
    · exact a2.trans c2.symm
    · exact absurd a1 c1
  · rcases h2.1.1 with ⟨c1, c2⟩ | ⟨c1, c2⟩
    · exact absurd c1 a1
    · exact a2.trans c2.symm)
theorem rz_155 {b : Bool} {A : Nat → Nat} {h0 : g_H} {d : Nat} {M : xa_M} {post : Option xa_V → xa_M → Prop} {C : Int → Int → Prop} {G : Int} (hG : M 34 3 = G) (g14 : 0 ≤ G ∧ G ≤ 14) (hC : ∀ x y, 0 ≤ x → x < G → 0 ≤ y → y < G → (C x y ↔ bt (M 36 x) y = 1)) (hsC : dq_s G C) (h9 : 0 ≤ M 1 9 ∧ M 1 9 ≤ 14) (hP : ∀ t, 0 ≤ t → t < M 1 9 → 0 ≤ M 35 t ∧ M 35 t < G) (k : ∀ (M1 : xa_M) (r : Int), dp_K M M1 → dp_min G C r → M1 48 1 = M 1 9 → post (some (0, 0, 0, 14, r)) M1) : xa_C (xl_I b) A h0 (d + 33) 155 [(2, 34, 0, 0, 0), (2, 1, 0, 0, 0), (2, 48, 0, 0, 0)] M post := by
  refine xa_meth (Q0 := (9, 1, false, 0, 0, 4)) (by decide +kernel) ⟨rfl, rfl⟩ (full := s_c_155) rfl rfl ?_
  intro hM hv Q hgo
  have rows : ∀ f : Int, 0 ≤ f ∧ f ≤ 14 → dp_min G C f → ∀ (n : Nat) (w : Int) (M1 : xa_M), 0 ≤ w ∧ w ≤ M 1 9 → (∀ (q : Nat) (j : Int), ¬ q = 37 → ¬ q = 48 → ¬ q = 49 → M1 q j = M q j) → M1 48 1 = w → 14 - w < (n : Int) → Q 107 [(4, (0, 0, 0, 14, w)), (3, (0, 0, 0, 14, f)), (0, (2, 34, 0, 0, 0)), (1, (2, 1, 0, 0, 0)), (2, (2, 48, 0, 0, 0))] [] M1 := by
    intro f f1 hmin
    intro n
    induction n with
    | zero => intro w M1 w1 hf h48 hms; omega
    | succ n ih =>
      intro w M1 w1 hf h48 hms
      have e9 : M1 1 9 = M 1 9 := hf 1 9 (by decide) (by decide) (by decide)
      have e35 : M1 35 w = M 35 w := hf 35 w (by decide) (by decide) (by decide)
      have pw : w < M 1 9 → 0 ≤ M 35 w ∧ M 35 w < G := fun h => hP w w1.1 h
      refine hgo.1 21 [8, 45, 107] 107 _ _ _ ?_
      refine And.intro ?_ ?_
      · intro (c1 : (M1 1 9) ≤ w)
        show post (some (0, 0, 0, 14, f)) M1
        exact k M1 f (fun q j a b c => hf q j (by omega) (by omega) (by omega)) hmin (by omega)
      · intro (c1 : w < (M1 1 9))
        show xa_C (xl_I b) A h0 _ 23 [(2, 35, 0, 0, 0), (0, 0, 0, 14, w)] M1 _
        refine cx_23_35 (show 0 ≤ w ∧ w < 14 by omega) ?_
        show xa_C (xl_I b) A h0 _ 23 [(2, 37, 0, 0, 0), (0, 0, (-2147483648), 2147483647, M1 35 w)] M1 _
        refine cx_23_37 (show 0 ≤ (M1 35 w) ∧ (M1 35 w) < 14 by omega) ?_
        show xa_C (xl_I b) A h0 _ 60 [(2, 48, 0, 0, 0), (1, 0, (-2147483648), 2147483647, M1 37 (M1 35 w))] M1 _
        refine rz_60k (N := M1) (c := w) (e := w + 1) (fun _ _ _ _ => rfl) h48 (by omega) ?_
        intro M128 (i2 : pl_K M1 M128) (i3 : M128 48 1 = w + 1)
        show Q 107 [(4, (0, 0, 1, 15, w + 1)), (3, (0, 0, 0, 14, f)), (0, (2, 34, 0, 0, 0)), (1, (2, 1, 0, 0, 0)), (2, (2, 48, 0, 0, 0))] [] M128
        refine hgo.2.1 107 _ [(4, (0, 0, 0, 14, w + 1)), (3, (0, 0, 0, 14, f)), (0, (2, 34, 0, 0, 0)), (1, (2, 1, 0, 0, 0)), (2, (2, 48, 0, 0, 0))] _ _ (xa_subI rfl rfl (fun _ _ _ _ => by omega) (xa_subI rfl rfl (fun _ _ _ _ => by omega) (xa_subR rfl (xa_subR rfl (xa_subR rfl (xa_sub0)))))) ?_
        exact ih (w + 1) M128 (by omega) (fun q j a b c => (i2 q j b c).trans (hf q j a b c)) i3 (by omega)
  have loop : ∀ f : Int, 0 ≤ f ∧ f ≤ 14 → dp_min G C f → ∀ (n : Nat) (g : Int) (M1 : xa_M), 0 ≤ g ∧ g ≤ 14 → (∀ (q : Nat) (j : Int), ¬ q = 37 → M1 q j = M q j) → (∀ t, 0 ≤ t → t < 14 → -1 ≤ M1 37 t ∧ M1 37 t ≤ 13) → (∀ t, g ≤ t → t < 14 → M1 37 t = -1) → 14 - g < (n : Int) → Q 8 [(4, (0, 0, 0, 14, g)), (3, (0, 0, 0, 14, f)), (0, (2, 34, 0, 0, 0)), (1, (2, 1, 0, 0, 0)), (2, (2, 48, 0, 0, 0))] [] M1 := by
    intro f f1 hmin
    intro n
    induction n with
    | zero => intro g M1 g1 hf hl hn hms; omega
    | succ n ih =>
      intro g M1 g1 hf hl hn hms
      have inner : g < G → ∀ (o bh : Int), (bs bh ∧ ∀ t, 0 ≤ t → t < 14 → bt bh t = 1 → g < t ∧ t < G) → ∀ (n : Nat) (c set : Int) (M1 : xa_M), 0 ≤ c ∧ c ≤ 14 → 0 ≤ set ∧ set ≤ 1 → (∀ (q : Nat) (j : Int), ¬ q = 37 → M1 q j = M q j) → (∀ t, 0 ≤ t → t < 14 → -1 ≤ M1 37 t ∧ M1 37 t ≤ 13) → (∀ t, g < t → t < 14 → M1 37 t = -1) → 14 - c < (n : Int) → Q 45 [(8, (0, 0, 0, 14, c)), (7, (0, 0, 0, 1, set)), (5, (0, 0, (-2147483648), 2147483647, o)), (6, (0, 0, 0, 16383, bh)), (4, (0, 0, 0, 13, g)), (3, (0, 0, 0, 14, f)), (0, (2, 34, 0, 0, 0)), (1, (2, 1, 0, 0, 0)), (2, (2, 48, 0, 0, 0))] [] M1 := by
        intro gG o bh hbh
        intro n
        induction n with
        | zero => intro c set M1 b1 s1 hf hl1 hn hms; omega
        | succ n ih2 =>
          intro c set M1 b1 s1 hf hl1 hn hms
          have hG1 : M1 34 3 = G := (hf 34 3 (by decide)).trans hG
          have hC1 : ∀ x y, 0 ≤ x → x < G → 0 ≤ y → y < G → (C x y ↔ bt (M1 36 x) y = 1) := fun x y x0 x1 y0 y1 => by
            rw [hf 36 x (by decide)]
            exact hC x y x0 x1 y0 y1
          have e9 : M1 1 9 = M 1 9 := hf 1 9 (by decide)
          refine hgo.1 30 [8, 45, 107] 45 _ _ _ ?_
          refine And.intro ?_ ?_
          · intro (c1 : f ≤ c)
            show Q 8 [(4, (0, 0, 1, 14, g + 1)), (8, (0, 0, 0, 14, c)), (7, (0, 0, 0, 1, set)), (5, (0, 0, (-2147483648), 2147483647, o)), (6, (0, 0, 0, 16383, bh)), (3, (0, 0, 0, 14, f)), (0, (2, 34, 0, 0, 0)), (1, (2, 1, 0, 0, 0)), (2, (2, 48, 0, 0, 0))] [] M1
            refine hgo.2.1 8 _ [(4, (0, 0, 0, 14, g + 1)), (3, (0, 0, 0, 14, f)), (0, (2, 34, 0, 0, 0)), (1, (2, 1, 0, 0, 0)), (2, (2, 48, 0, 0, 0))] _ _ (xa_subI rfl rfl (fun _ _ _ _ => by omega) (xa_subI rfl rfl (fun _ _ _ _ => by omega) (xa_subR rfl (xa_subR rfl (xa_subR rfl (xa_sub0)))))) ?_
            exact ih (g + 1) M1 (by omega) hf hl1 (fun t t0 t1 => hn t (by omega) t1) (by omega)
          · intro (c1 : c < f)
            refine And.intro ?_ ?_
            · intro (c2 : ¬ set = 0)
              show Q 8 [(4, (0, 0, 1, 14, g + 1)), (8, (0, 0, 0, 14, c)), (7, (0, 0, 0, 1, set)), (5, (0, 0, (-2147483648), 2147483647, o)), (6, (0, 0, 0, 16383, bh)), (3, (0, 0, 0, 14, f)), (0, (2, 34, 0, 0, 0)), (1, (2, 1, 0, 0, 0)), (2, (2, 48, 0, 0, 0))] [] M1
              refine hgo.2.1 8 _ [(4, (0, 0, 0, 14, g + 1)), (3, (0, 0, 0, 14, f)), (0, (2, 34, 0, 0, 0)), (1, (2, 1, 0, 0, 0)), (2, (2, 48, 0, 0, 0))] _ _ (xa_subI rfl rfl (fun _ _ _ _ => by omega) (xa_subI rfl rfl (fun _ _ _ _ => by omega) (xa_subR rfl (xa_subR rfl (xa_subR rfl (xa_sub0)))))) ?_
              exact ih (g + 1) M1 (by omega) hf hl1 (fun t t0 t1 => hn t (by omega) t1) (by omega)
            · intro (c2 : set = 0)
              refine And.intro ?_ ?_
              · intro (c3 : ¬ (xa_ib 3 (xa_ib 7 o c) 1) = 1)
                show Q 45 [(8, (0, 0, 1, 15, c + 1)), (7, (0, 0, 0, 1, set)), (5, (0, 0, (-2147483648), 2147483647, o)), (6, (0, 0, 0, 16383, bh)), (4, (0, 0, 0, 13, g)), (3, (0, 0, 0, 14, f)), (0, (2, 34, 0, 0, 0)), (1, (2, 1, 0, 0, 0)), (2, (2, 48, 0, 0, 0))] [] M1
                refine hgo.2.1 45 _ [(8, (0, 0, 0, 14, c + 1)), (7, (0, 0, 0, 1, set)), (5, (0, 0, (-2147483648), 2147483647, o)), (6, (0, 0, 0, 16383, bh)), (4, (0, 0, 0, 13, g)), (3, (0, 0, 0, 14, f)), (0, (2, 34, 0, 0, 0)), (1, (2, 1, 0, 0, 0)), (2, (2, 48, 0, 0, 0))] _ _ (xa_subI rfl rfl (fun _ _ _ _ => by omega) (xa_subI rfl rfl (fun _ _ _ _ => by omega) (xa_subI rfl rfl (fun _ _ _ _ => by omega) (xa_subI rfl rfl (fun _ _ _ _ => by omega) (xa_subI rfl rfl (fun _ _ _ _ => by omega) (xa_subI rfl rfl (fun _ _ _ _ => by omega) (xa_subR rfl (xa_subR rfl (xa_subR rfl (xa_sub0)))))))))) ?_
                exact ih2 (c + 1) set M1 (by omega) (by omega) hf hl1 hn (by omega)
              · intro (c3 : (xa_ib 3 (xa_ib 7 o c) 1) = 1)
                show xa_C (xl_I b) A h0 _ 18 [(2, 37, 0, 0, 0), (0, 0, 0, 13, g), (0, 0, 0, 14, c)] M1 _
                refine cx_18_37 (show 0 ≤ g ∧ g < 14 by omega) ?_
                show xa_C (xl_I b) A h0 _ 157 [(2, 34, 0, 0, 0), (0, 0, 0, 16383, bh), (0, 0, 0, 14, f), (0, 0, 0, 0, 0)] (xa_up M1 37 g c) _
                refine dp_all (d := d + 1) ((xa_up_ne (by omega)).trans hG1) g14 (fun x y x0 x1 y0 y1 => by rw [xa_up_ne (by omega)]; exact hC1 x y x0 x1 y0 y1) (dp_hl hl1 (by omega)) hsC hbh.1 (cn_le bh).2 ⟨Int.le_refl 0, by have := (cn_le bh).2; omega⟩ (show 0 ≤ f ∧ f ≤ 14 by omega) (fun t t0 t1 h => ⟨(hbh.2 t t0 t1 h).2, (xa_up_ne (by have := (hbh.2 t t0 t1 h).1; omega)).trans (hn t (hbh.2 t t0 t1 h).1 t1)⟩) ?_
                intro r129 (i4 : r129 = 0 ∨ r129 = 1) (i5 : r129 = 1 ↔ dq_X G C (fun t => bt bh t = 1) ((xa_up M1 37 g c) 37) f)
                show Q 45 [(8, (0, 0, 1, 15, c + 1)), (7, (0, 0, 0, 1, r129)), (5, (0, 0, (-2147483648), 2147483647, o)), (6, (0, 0, 0, 16383, bh)), (4, (0, 0, 0, 13, g)), (3, (0, 0, 0, 14, f)), (0, (2, 34, 0, 0, 0)), (1, (2, 1, 0, 0, 0)), (2, (2, 48, 0, 0, 0))] [] (xa_up M1 37 g c)
                refine hgo.2.1 45 _ [(8, (0, 0, 0, 14, c + 1)), (7, (0, 0, 0, 1, r129)), (5, (0, 0, (-2147483648), 2147483647, o)), (6, (0, 0, 0, 16383, bh)), (4, (0, 0, 0, 13, g)), (3, (0, 0, 0, 14, f)), (0, (2, 34, 0, 0, 0)), (1, (2, 1, 0, 0, 0)), (2, (2, 48, 0, 0, 0))] _ _ (xa_subI rfl rfl (fun _ _ _ _ => by omega) (xa_subI rfl rfl (fun _ _ _ _ => by omega) (xa_subI rfl rfl (fun _ _ _ _ => by omega) (xa_subI rfl rfl (fun _ _ _ _ => by omega) (xa_subI rfl rfl (fun _ _ _ _ => by omega) (xa_subI rfl rfl (fun _ _ _ _ => by omega) (xa_subR rfl (xa_subR rfl (xa_subR rfl (xa_sub0)))))))))) ?_
                exact ih2 (c + 1) r129 _ (by omega) (by omega) (fun q j hq => (xa_up_ne (fun e => hq e.1)).trans (hf q j hq)) (dp_hl hl1 (by omega)) (fun t t0 t1 => (xa_up_ne (by omega)).trans (hn t t0 t1)) (by omega)
      have hG1 : M1 34 3 = G := (hf 34 3 (by decide)).trans hG
      have hC1 : ∀ x y, 0 ≤ x → x < G → 0 ≤ y → y < G → (C x y ↔ bt (M1 36 x) y = 1) := fun x y x0 x1 y0 y1 => by
        rw [hf 36 x (by decide)]
        exact hC x y x0 x1 y0 y1
      have e9 : M1 1 9 = M 1 9 := hf 1 9 (by decide)
      have hl1 := hl
      refine hgo.1 27 [8, 45, 107] 8 _ _ _ ?_
      refine And.intro ?_ ?_
      · intro (c1 : (M1 34 3) ≤ g)
        show xa_C (xl_I b) A h0 _ 59 [(2, 48, 0, 0, 0)] M1 _
        refine cx_59_48 ?_
        show Q 107 [(4, (0, 0, 0, 0, 0)), (3, (0, 0, 0, 14, f)), (0, (2, 34, 0, 0, 0)), (1, (2, 1, 0, 0, 0)), (2, (2, 48, 0, 0, 0))] [] (xa_up M1 48 1 0)
        refine hgo.2.1 107 _ [(4, (0, 0, 0, 14, 0)), (3, (0, 0, 0, 14, f)), (0, (2, 34, 0, 0, 0)), (1, (2, 1, 0, 0, 0)), (2, (2, 48, 0, 0, 0))] _ _ (xa_subI rfl rfl (fun _ _ _ _ => by omega) (xa_subI rfl rfl (fun _ _ _ _ => by omega) (xa_subR rfl (xa_subR rfl (xa_subR rfl (xa_sub0)))))) ?_
        exact rows f (by omega) hmin 15 0 _ (by omega) (fun q j a b c => (xa_up_ne (by omega)).trans (hf q j a)) xa_up_eq (by omega)
      · intro (c1 : g < (M1 34 3))
        show xa_C (xl_I b) A h0 _ 161 [(2, 34, 0, 0, 0), (0, 0, 0, 14, g), (0, 0, 0, 14, f)] M1 _
        refine cx_161d hG1 g14 hC1 hl1 (show 0 ≤ g ∧ g < G by omega) (show 0 ≤ f ∧ f ≤ 14 by omega) ?_
        intro r130 (i2 : dp_o G C (M1 37) g f r130)
        show Q 45 [(8, (0, 0, 0, 0, 0)), (7, (0, 0, 0, 0, 0)), (6, (0, 0, (-2147483648), 2147483647, xa_w32 ((xa_ib 6 1 (M1 34 3)) - (xa_ib 6 2 g)))), (5, (0, 0, (-2147483648), 2147483647, r130)), (4, (0, 0, 0, 14, g)), (3, (0, 0, 0, 14, f)), (0, (2, 34, 0, 0, 0)), (1, (2, 1, 0, 0, 0)), (2, (2, 48, 0, 0, 0))] [] M1
        have hb : 0 ≤ (xa_w32 ((xa_ib 6 1 (M1 34 3)) - (xa_ib 6 2 g))) ∧ (xa_w32 ((xa_ib 6 1 (M1 34 3)) - (xa_ib 6 2 g))) < 16384 := bs_beh (by omega) (by omega) (by omega) (by omega)
        refine hgo.2.1 45 _ [(8, (0, 0, 0, 14, 0)), (7, (0, 0, 0, 1, 0)), (5, (0, 0, (-2147483648), 2147483647, r130)), (6, (0, 0, 0, 16383, xa_w32 ((xa_ib 6 1 (M1 34 3)) - (xa_ib 6 2 g)))), (4, (0, 0, 0, 13, g)), (3, (0, 0, 0, 14, f)), (0, (2, 34, 0, 0, 0)), (1, (2, 1, 0, 0, 0)), (2, (2, 48, 0, 0, 0))] _ _ (xa_subI rfl rfl (fun _ _ _ _ => by omega) (xa_subI rfl rfl (fun _ _ _ _ => by omega) (xa_subI rfl rfl (fun _ _ _ _ => by omega) (xa_subI rfl rfl (fun _ _ _ _ => by omega) (xa_subI rfl rfl (fun _ _ _ _ => by omega) (xa_subI rfl rfl (fun _ _ _ _ => by omega) (xa_subR rfl (xa_subR rfl (xa_subR rfl (xa_sub0)))))))))) ?_
        exact inner (by omega) _ (xa_w32 ((xa_ib 6 1 (M1 34 3)) - (xa_ib 6 2 g))) ⟨hb, fun t t0 t1 h => by
          have := bt_beh (by omega) (by omega) (by omega) (by omega) t0 t1 h
          omega⟩ 15 0 0 M1 (by omega) (by omega) hf hl (fun t t0 t1 => hn t (by omega) t1) (by omega)
  refine hgo.1 10 [8, 45, 107] 0 _ _ _ ?_
  show xa_C (xl_I b) A h0 _ 156 [(2, 34, 0, 0, 0)] M _
  refine cx_156d hG g14 hC hsC ?_
  intro M131 r132 (i1 : ∀ (q : Nat) (j : Int), ¬ q = 37 → M131 q j = M q j) (i2 : ∀ t, 0 ≤ t → t < 14 → M131 37 t = -1) (i3 : dp_min G C r132)
  show Q 8 [(4, (0, 0, 0, 0, 0)), (3, (0, 0, 0, 14, r132)), (0, (2, 34, 0, 0, 0)), (1, (2, 1, 0, 0, 0)), (2, (2, 48, 0, 0, 0))] [] M131
  refine hgo.2.1 8 _ [(4, (0, 0, 0, 14, 0)), (3, (0, 0, 0, 14, r132)), (0, (2, 34, 0, 0, 0)), (1, (2, 1, 0, 0, 0)), (2, (2, 48, 0, 0, 0))] _ _ (xa_subI rfl rfl (fun _ _ _ _ => by omega) (xa_subI rfl rfl (fun _ _ _ _ => by omega) (xa_subR rfl (xa_subR rfl (xa_subR rfl (xa_sub0)))))) ?_
  have fr := i3.1
  exact loop r132 (by omega) i3 15 0 M131 (by omega) i1 (fun t t0 t1 => by rw [i2 t t0 t1]; decide) (fun t t0 t1 => i2 t t0 t1) (by omega)
theorem rx_151 {b : Bool} {A : Nat → Nat} {h0 : g_H} {d : Nat} {M : xa_M} {post : Option xa_V → xa_M → Prop} (hF : pl_F M) (hab : xk_ab (M 1 9) (M 1 10) (M 7) (M 8)) (k : ∀ (M1 : xa_M) (r : Int), dp_K M M1 → dq_A (M 1 9) (dp_W (M 9) (M 10) (M 5) (M 4) (M 7) (M 8) (M 1 10)) (M 7) (M 8) (M 1 10) r → rz_c (0 ≤ r) (M 48 1) (M1 48 1) (M 1 9) → post (some (0, 0, (-2), 14, r)) M1) : xa_C (xl_I b) A h0 (d + 34) 151 [(2, 0, 0, 0, 0)] M post := by
  refine xa_C_wk ?_
  refine xa_meth (Q0 := (1, 1, false, 0, 0, 11)) (by decide +kernel) ⟨rfl, rfl⟩ (full := s_c_151) rfl rfl ?_
  intro hM hv Q hgo
  refine hgo.1 18 [] 0 _ _ _ ?_
  show xa_C (xl_I b) A h0 _ 152 [(2, 34, 0, 0, 0), (2, 1, 0, 0, 0)] M _
  refine rz_fc (j := 152) (by decide) (cx_152d hF hab ?_ ?_)
  · intro M133 (i1 : dp_K M M133) (i2 : dp_L M M133) (i3 : ∀ x, 0 ≤ x → x < M133 34 3 → ¬ bt (M133 36 x) x = 1) (y9 : M133 48 1 = M 48 1)
    show xa_C (xl_I b) A h0 _ 155 [(2, 34, 0, 0, 0), (2, 1, 0, 0, 0), (2, 48, 0, 0, 0)] M133 _
    refine rz_155 (C := fun x y => bt (M133 36 x) y = 1) (G := M133 34 3) rfl (by assumption : dp_L M M133).1 (fun _ _ _ _ _ _ => Iff.rfl) (dp_s (by assumption : dp_L M M133).2.2 (by assumption)) (by rw [dp_Ke (by assumption : dp_K M M133) 1 (by decide)]; exact hF.1) (by rw [dp_Ke (by assumption : dp_K M M133) 1 (by decide)]; exact (by assumption : dp_L M M133).2.1.2.2.1) ?_
    intro M135 r136 (i4 : dp_K M133 M135) (i5 : dp_min (M133 34 3) (fun x y => bt (M133 36 x) y = 1) r136) (z9 : M135 48 1 = M133 1 9)
    show xa_wk post (some (0, 0, 0, 14, r136)) M135
    have fr := i5.1
    have f14 := i2.1
    exact xa_wkI _ rfl (fun _ _ => by omega) (k _ _ (dp_Kt i1 i4) (dp_ans hab i2.2.1 i2.2.2 i3 i5) (Or.inl ⟨by omega, by rw [z9, dp_Ke i1 1 (by decide)]⟩))
  · intro M134 (i6 : dp_K M M134) (i7 : dp_L M M134) (i8 : ∃ x, 0 ≤ x ∧ x < M134 34 3 ∧ bt (M134 36 x) x = 1) (y9 : M134 48 1 = M 48 1)
    show xa_wk post (some (0, 0, (-2), (-2), (-2))) M134
    exact xa_wkI (-2) rfl (fun _ _ => by omega) (k _ _ i6 (Or.inl ⟨(dq_gS i7.2.1 i7.2.2).mp i8, rfl⟩) (by show rz_c (0 ≤ ((-2) : Int)) (M 48 1) (M134 48 1) (M 1 9); unfold rz_c; omega))
theorem rm_depths {A : Nat → Nat} {h0 : g_H} {d : Nat} {M : xa_M} {post : Option xa_V → xa_M → Prop} (hI : xm_Inv M) (k : ∀ (r : Int) (M1 : xa_M), xm_cor M M1 → dq_A (M 60 0) (xm_inw M) (M 66) (M 67) (M 60 6) r → rz_c (0 ≤ r) (M 60 20) (M1 60 20) (M 60 0) → post (some (0, 0, (-2), 14, r)) M1) : xa_C xm_I A h0 (d + 19) 267 [(2, 60, 0, 0, 0)] M post := by
  refine xa_C_wk ?_
  refine xa_meth (d := d + 18) (Q0 := (4, 1, false, 0, 0, 12)) (by decide +kernel) ⟨rfl, rfl⟩ (full := s_c_267) rfl rfl ?_
  intro hM hv Q hgo
  have b0 := xm_f0 hM
  have b6 := xm_f6 hM
  have hab : xk_ab (M 60 0) (M 60 6) (fun i => M 66 i) (fun i => M 67 i) := fun i i0 i1 => by
    have h1 := xm_t66 hM i i0 (by omega)
    have h2 := xm_t67 hM i i0 (by omega)
    have h3 := hI.2.1 i i0 i1
    exact ⟨⟨h1.1, h3.1⟩, h2.1, h3.2⟩
  have loop6 : ∀ (n : Nat) (x2 x1 : Int) (M1 : xa_M), 0 ≤ x2 ∧ x2 ≤ 14 → 0 ≤ x1 ∧ x1 ≤ 14 → xm_cor M M1 → (M1 60 20 = x2 ∧ x2 ≤ M 60 0) → dq_A (M 60 0) (xm_inw M) (M 66) (M 67) (M 60 6) x1 → 14 - x2 < (n : Int) → Q 191 [(2, (0, 0, 0, 14, x2)), (1, (0, 0, 0, 14, x1)), (0, (2, 60, 0, 0, 0))] [] M1 := by
    intro n
    induction n with
    | zero => intro x2 x1 M1 b2 b1 hc h20 hA hms; omega
    | succ n ih =>
      intro x2 x1 M1 b2 b1 hc h20 hA hms
      refine hgo.2.2 _ _ _ _ (fun hM1 _ => ?_)
      have b20 := xm_f20 hM1
      have e0 := xm_corf hc 0 (by omega)
      refine hgo.1 18 [7, 30, 40, 112, 122, 168, 191] 191 _ _ _ ?_
      refine And.intro ?_ ?_
      · intro (c1 : (M1 60 0) ≤ x2)
        show xa_wk post (some (0, 0, 0, 14, x1)) M1
        exact xa_wkI x1 rfl (fun _ _ => by omega) (k x1 _ hc hA (Or.inl ⟨b1.1, by omega⟩))
      · intro (c1 : x2 < (M1 60 0))
        refine And.intro (show 0 ≤ x2 ∧ x2 < 14 by omega) ?_
        show xa_C xm_I A h0 _ 231 [(2, 60, 0, 0, 0), (1, 0, (-1), 13, M1 94 x2)] M1 _
        refine ct_tell (n := M1 60 20) (by first | rfl | (simp [xa_up]; done) | omega) (by omega) (by omega) ?_
        show Q 191 [(2, (0, 0, 1, 15, x2 + 1)), (1, (0, 0, 0, 14, x1)), (0, (2, 60, 0, 0, 0))] [] (xa_up (xa_up M1 74 (M1 60 20) (M1 94 x2)) 60 20 ((M1 60 20) + 1))
        refine hgo.2.1 191 _ [(2, (0, 0, 0, 14, x2 + 1)), (1, (0, 0, 0, 14, x1)), (0, (2, 60, 0, 0, 0))] _ _ (xa_subI rfl rfl (fun _ _ _ _ => by omega) (xa_subI rfl rfl (fun _ _ _ _ => by omega) (xa_subR rfl xa_sub0))) ?_
        exact ih (x2 + 1) x1 (xa_up (xa_up M1 74 (M1 60 20) (M1 94 x2)) 60 20 ((M1 60 20) + 1)) (by omega) b1 (xm_cor_f (by omega) (xm_cor_a rfl hc)) ⟨by rw [xa_up_eq]; omega, by omega⟩ hA (by omega)
  have loop5 : ∀ (n : Nat) (x1 : Int) (M1 : xa_M), 0 ≤ x1 ∧ x1 ≤ 14 → xm_cor M M1 → xm_ff M1 → xm_fw M1 → dp_z M M1 → (∀ x, 0 ≤ x → x < x1 → ¬ dq_Col (M 60 0) (xm_inw M) (M 66) (M 67) (M 60 6) x) → x1 ≤ M 60 0 → 14 - x1 < (n : Int) → Q 168 [(1, (0, 0, 0, 14, x1)), (0, (2, 60, 0, 0, 0))] [] M1 := by
    intro n
    induction n with
    | zero => intro x1 M1 b1 hc hff hfw hz hno h1 hms; omega
    | succ n ih =>
      intro x1 M1 b1 hc hff hfw hz hno h1 hms
      have e0 := xm_corf hc 0 (by omega)
      refine hgo.1 16 [7, 30, 40, 112, 122, 168, 191] 168 _ _ _ ?_
      show xa_C xm_I A h0 (d + 18) 269 [(2, 60, 0, 0, 0), (0, 0, 0, 0, 0), (0, 0, 0, 0, 0), (0, 0, 0, 14, x1)] M1 _
      obtain ⟨kk, hk⟩ : ∃ kk : Nat, M1 60 0 - 0 = (kk : Int) := ⟨(M1 60 0).toNat, by omega⟩
      have hd : d + 18 = (d + (14 - kk)) + kk + 4 := by omega
      rw [hd]
      have z3 : ∀ w, 0 ≤ w → w < M 60 0 → 0 ≤ M1 93 w ∧ M1 93 w < M 60 0 := fun w w0 w1 => by
        have := hff w w0 (by omega)
        omega
      have eI : xm_inw M1 = xm_inw M := funext (fun a => funext (fun b => propext (xm_inw_c hc)))
      have eE : dq_E (M1 60 0) (xm_inw M1) (M1 93) (M1 94) 0 x1 ↔ dq_Col (M 60 0) (xm_inw M) (M 66) (M 67) (M 60 6) x1 := by
        rw [e0, eI]
        exact dq_EC hab hz.1 hz.2 z3
      have hns : ¬ dq_Self (M 60 0) (xm_inw M) (M 66) (M 67) (M 60 6) := fun h => by
        obtain ⟨v, u, v0, vu, u1, w, e⟩ := (dq_ES hz.1 hz.2).mp h
        rw [← eI] at w
        exact hfw v u v0 vu (by omega) e w
      refine ct_putsF kk hk (by omega) (by omega) (by omega) (by omega) (by omega) hff ⟨fun v v0 v1 => by omega, fun v x v0 v1 => by omega, fun v x v0 vx x1 => by omega⟩ (fun r2 M2 br2 h94 hr2 => ?_)
      have hr3 := hr2.trans eE
      have hc2 := xm_cor_t hc (xm_94_c h94)
      refine And.intro ?_ ?_
      · intro (c2 : ¬ r2 = 0)
        show Q 191 [(2, (0, 0, 0, 0, 0)), (1, (0, 0, 0, 14, x1)), (0, (2, 60, 0, 0, 0))] [] (xa_up M2 60 20 0)
        exact hgo.2.1 191 _ _ _ _ (xa_subI rfl rfl (fun _ _ _ _ => by omega) (xa_subI rfl rfl (fun _ _ _ _ => by omega) (xa_subR rfl xa_sub0))) (loop6 15 0 x1 (xa_up M2 60 20 0) (by omega) b1 (xm_cor_f (by omega) hc2) ⟨xa_up_eq, by omega⟩ (Or.inr ⟨hns, b1.1, hr3.mp (by omega), hno⟩) (by omega))
      · intro (c2 : r2 = 0)
        show Q 168 [(1, (0, 0, 1, 15, x1 + 1)), (0, (2, 60, 0, 0, 0))] [] M2
        have hlt : x1 < M 60 0 := by
          rcases Int.lt_or_le x1 (M 60 0) with h | h
          · exact h
          · have := hr2.mpr (by rw [e0, eI]; exact dq_En z3 (fun v u v0 vu u1 e w => by rw [← eI] at w; exact hfw v u v0 vu (by omega) e w) _ h)
            omega
        exact hgo.2.1 168 _ _ _ _ (xa_subI rfl rfl (fun _ _ _ _ => by omega) (xa_subR rfl xa_sub0)) (ih (x1 + 1) M2 (by omega) hc2 (xm_94_ff h94 hff) (xm_94_fw h94 hfw) (dp_z_94 h94 hz) (fun x x0 x1' => by
          by_cases ex : x = x1
          · rw [ex]
            exact fun h => by have := hr3.mpr h; omega
          · exact hno x x0 (by omega)) (by omega) (by omega))
  have loop3 : ∀ (n : Nat) (x1 : Int) (M1 : xa_M), 0 ≤ x1 ∧ x1 ≤ 14 → xm_cor M M1 → M1 60 20 = M 60 20 → xm_ff M1 → dp_z M M1 → (∀ v u, 0 ≤ u → u < v → v < x1 → M1 93 v = M1 93 u → ¬ xm_inw M1 v u) → x1 ≤ M 60 0 → 14 - x1 < (n : Int) → Q 112 [(1, (0, 0, 0, 14, x1)), (0, (2, 60, 0, 0, 0))] [] M1 := by
    intro n
    induction n with
    | zero => intro x1 M1 b1 hc h20 hff hz hiw h1 hms; omega
    | succ n ih =>
      intro x1 M1 b1 hc h20 hff hz hiw h1 hms
      have e0 := xm_corf hc 0 (by omega)
      have loop4 : ∀ (n2 : Nat) (x2 : Int), 0 ≤ x2 ∧ x2 ≤ 13 → x1 < M 60 0 → x2 ≤ x1 → (∀ u, 0 ≤ u → u < x2 → M1 93 x1 = M1 93 u → ¬ xm_inw M1 x1 u) → 13 - x2 < (n2 : Int) → Q 122 [(2, (0, 0, 0, 13, x2)), (1, (0, 0, 0, 13, x1)), (0, (2, 60, 0, 0, 0))] [] M1 := by
        intro n2
        induction n2 with
        | zero => intro x2 b2 h10 h21 hu hms2; omega
        | succ n2 ih2 =>
          intro x2 b2 h10 h21 hu hms2
          have nx : x2 < x1 → (M1 93 x1 = M1 93 x2 → ¬ xm_inw M1 x1 x2) → Q 122 [(2, (0, 0, 1, 14, x2 + 1)), (1, (0, 0, 0, 13, x1)), (0, (2, 60, 0, 0, 0))] [] M1 := fun c1 hx => by
            refine hgo.2.1 122 _ _ _ _ (xa_subI rfl rfl (fun _ _ _ _ => by omega) (xa_subI rfl rfl (fun _ _ _ _ => by omega) (xa_subR rfl xa_sub0))) (ih2 (x2 + 1) (by omega) h10 (by omega) (fun u u0 u1 e => ?_) (by omega))
            rcases Int.lt_or_eq_of_le (show u ≤ x2 by omega) with c | c
            · exact hu u u0 c e
            · rw [c] at e ⊢
              exact hx e
          refine hgo.1 24 [7, 30, 40, 112, 122, 168, 191] 122 _ _ _ ?_
          refine And.intro ?_ ?_
          · intro (c1 : x1 ≤ x2)
            show Q 112 [(1, (0, 0, 1, 14, x1 + 1)), (2, (0, 0, 0, 13, x2)), (0, (2, 60, 0, 0, 0))] [] M1
            refine hgo.2.1 112 _ _ _ _ (xa_subI rfl rfl (fun _ _ _ _ => by omega) (xa_subR rfl xa_sub0)) (ih (x1 + 1) M1 (by omega) hc h20 hff hz (fun v u u0 uv v1 e => ?_) (by omega) (by omega))
            rcases Int.lt_or_eq_of_le (show v ≤ x1 by omega) with c | c
            · exact hiw v u u0 uv c e
            · rw [c] at e uv ⊢
              exact hu u u0 (by omega) e
          · intro (c1 : x2 < x1)
            refine And.intro ?_ ?_
            · intro (c2 : ¬ (M1 93 x1) = (M1 93 x2))
              show Q 122 [(2, (0, 0, 1, 14, x2 + 1)), (1, (0, 0, 0, 13, x1)), (0, (2, 60, 0, 0, 0))] [] M1
              exact nx c1 (fun e => absurd e c2)
            · intro (c2 : (M1 93 x1) = (M1 93 x2))
              show xa_C xm_I A h0 _ 268 [(2, 60, 0, 0, 0), (0, 0, 0, 13, x1), (0, 0, 0, 13, x2)] M1 _
              refine ct_areInWay (by omega) (by omega) (by omega) (by omega) (fun r3 br3 hr3 => ?_)
              refine And.intro ?_ ?_
              · intro (c4 : r3 = 0)
                show Q 122 [(2, (0, 0, 1, 14, x2 + 1)), (1, (0, 0, 0, 13, x1)), (0, (2, 60, 0, 0, 0))] [] M1
                exact nx c1 (fun _ e => by have := hr3.2 e; omega)
              · intro (c4 : ¬ r3 = 0)
                show xa_wk post (some (0, 0, (-2), (-2), (-2))) M1
                have hi := hr3.1 (by omega)
                rw [xm_inw_c hc] at hi
                exact xa_wkI (-2) rfl (fun _ _ => by omega) (k (-2) _ hc (Or.inl ⟨(dq_ES hz.1 hz.2).mpr ⟨x2, x1, b2.1, c1, by omega, xm_inw_s hi, c2.symm⟩, rfl⟩) (by show rz_c (0 ≤ ((-2) : Int)) (M 60 20) (M1 60 20) (M 60 0); unfold rz_c; omega))
      refine hgo.1 11 [7, 30, 40, 112, 122, 168, 191] 112 _ _ _ ?_
      refine And.intro ?_ ?_
      · intro (c1 : (M1 60 0) ≤ x1)
        show Q 168 [(1, (0, 0, 0, 0, 0)), (0, (2, 60, 0, 0, 0))] [] M1
        refine hgo.2.1 168 _ _ _ _ (xa_subI rfl rfl (fun _ _ _ _ => by omega) (xa_subR rfl xa_sub0)) (loop5 15 0 M1 (by omega) hc hff (fun v u v0 vu u1 e hi => ?_) hz (fun x x0 x1 => by omega) (by omega) (by omega))
        exact hiw u v v0 vu (by omega) e.symm (xm_inw_s hi)
      · intro (c1 : x1 < (M1 60 0))
        show Q 122 [(2, (0, 0, 0, 0, 0)), (1, (0, 0, 0, 14, x1)), (0, (2, 60, 0, 0, 0))] [] M1
        exact hgo.2.1 122 _ _ _ _ (xa_subI rfl rfl (fun _ _ _ _ => by omega) (xa_subI rfl rfl (fun _ _ _ _ => by omega) (xa_subR rfl xa_sub0))) (loop4 14 0 (by omega) (by omega) (by omega) (fun u u0 u1 => by omega) (by omega))
  have loop1 : ∀ (n : Nat) (x1 : Int) (M1 : xa_M), 0 ≤ x1 ∧ x1 ≤ 14 → xm_cor M M1 → M1 60 20 = M 60 20 → xk_K (M 60 0) (M 60 6) (fun i => M 66 i) (fun i => M 67 i) (fun w => M1 93 w) → xk_R (M 60 0) (M 60 6) (fun i => M 66 i) (fun i => M 67 i) (fun w => M1 93 w) x1 → x1 ≤ M 60 0 → 14 - x1 < (n : Int) → Q 30 [(1, (0, 0, 0, 14, x1)), (0, (2, 60, 0, 0, 0))] [] M1 := by
    intro n
    induction n with
    | zero => intro x1 M1 b1 hc h20 hK hR h1 hms; omega
    | succ n ih =>
      intro x1 M0 b1 hc h20 hK hR h1 hms
      have e0 := xm_corf hc 0 (by omega)
      have loop2 : ∀ (n2 : Nat) (x2 : Int) (M1 : xa_M), 0 ≤ x2 ∧ x2 ≤ 16 → xm_cor M M1 → M1 60 20 = M 60 20 → xk_K (M 60 0) (M 60 6) (fun i => M 66 i) (fun i => M 67 i) (fun w => M1 93 w) → xk_J (M 60 0) (M 60 6) (fun i => M 66 i) (fun i => M 67 i) (fun w => M0 93 w) (fun w => M1 93 w) x2 → x1 < M 60 0 → x2 ≤ M 60 6 → 16 - x2 < (n2 : Int) → Q 40 [(2, (0, 0, 0, 16, x2)), (1, (0, 0, 0, 13, x1)), (0, (2, 60, 0, 0, 0))] [] M1 := by
        intro n2
        induction n2 with
        | zero => intro x2 M1 b2 hc h20 hK hJ h10 h2 hms2; omega
        | succ n2 ih2 =>
          intro x2 M1 b2 hc h20 hK hJ h10 h2 hms2
          have e6 := xm_corf hc 6 (by omega)
          have e66 := xm_corq hc 66 rfl x2
          have e67 := xm_corq hc 67 rfl x2
          refine hgo.1 43 [7, 30, 40, 112, 122, 168, 191] 40 _ _ _ ?_
          refine And.intro ?_ ?_
          · intro (c1 : (M1 60 6) ≤ x2)
            show Q 30 [(1, (0, 0, 1, 14, x1 + 1)), (2, (0, 0, 0, 16, x2)), (0, (2, 60, 0, 0, 0))] [] M1
            have hx : x2 = M 60 6 := by omega
            rw [hx] at hJ
            exact hgo.2.1 30 _ _ _ _ (xa_subI rfl rfl (fun _ _ _ _ => by omega) (xa_subR rfl xa_sub0)) (ih (x1 + 1) M1 (by omega) hc h20 hK (xk_e hJ hR) (by omega) (by omega))
          · intro (c1 : x2 < (M1 60 6))
            refine And.intro (show 0 ≤ x2 ∧ x2 < 16 by omega) ?_
            refine And.intro (show 0 ≤ x2 ∧ x2 < 16 by omega) ?_
            show xa_C xm_I A h0 _ 32 [(0, 0, 0, 13, M1 93 (M1 66 x2)), (0, 0, 0, 13, M1 93 (M1 67 x2))] M1 _
            refine ct_min 0 13 (by decide) (by decide) (by decide) (fun r2 br2 er2 => ?_)
            refine And.intro (show 0 ≤ x2 ∧ x2 < 16 by omega) ?_
            refine And.intro (show 0 ≤ x2 ∧ x2 < 16 by omega) ?_
            show Q 40 [(2, (0, 0, 1, 17, x2 + 1)), (3, (0, 0, 0, 13, r2)), (1, (0, 0, 0, 13, x1)), (0, (2, 60, 0, 0, 0))] [] (xa_up (xa_up M1 93 (M1 66 x2) r2) 93 (M1 67 x2) r2)
            rw [e66, e67] at er2 ⊢
            have hfe : ∀ w, (fun w => xa_up (xa_up M1 93 (M 66 x2) r2) 93 (M 67 x2) r2 93 w) w = if w = (fun i => M 67 i) x2 then r2 else if w = (fun i => M 66 i) x2 then r2 else (fun w => M1 93 w) w := fun w => xm_93_2 M1 _ _ _ _
            exact hgo.2.1 40 _ _ _ _ (xa_subI rfl rfl (fun _ _ _ _ => by omega) (xa_subI rfl rfl (fun _ _ _ _ => by omega) (xa_subR rfl xa_sub0))) (ih2 (x2 + 1) _ (by omega) (xm_cor_a rfl (xm_cor_a rfl hc)) ((xa_up_ne (by omega)).trans ((xa_up_ne (by omega)).trans h20)) (xk_Ks hab hK b2.1 (by omega) er2.1 er2.2.1 er2.2.2 hfe) (xk_Js hab hJ b2.1 (by omega) er2.1 er2.2.1 er2.2.2 hfe) h10 (by omega) (by omega))
      refine hgo.1 11 [7, 30, 40, 112, 122, 168, 191] 30 _ _ _ ?_
      refine And.intro ?_ ?_
      · intro (c1 : (M0 60 0) ≤ x1)
        show Q 112 [(1, (0, 0, 0, 0, 0)), (0, (2, 60, 0, 0, 0))] [] M0
        have hx : x1 = M 60 0 := by omega
        rw [hx] at hR
        refine hgo.2.1 112 _ _ _ _ (xa_subI rfl rfl (fun _ _ _ _ => by omega) (xa_subR rfl xa_sub0)) (loop3 15 0 M0 (by omega) hc h20 (fun w w0 w1 => ?_) ⟨dp_heq hab hK hR b0.1, hK.1⟩ (fun v u u0 uv v1 => by omega) (by omega) (by omega))
        rw [e0] at w1
        have h1 := hK.2 w w0 w1
        exact ⟨h1.1, h1.2, xk_fin b0.1 hab hK hR w w0 w1⟩
      · intro (c1 : x1 < (M0 60 0))
        show Q 40 [(2, (0, 0, 0, 0, 0)), (1, (0, 0, 0, 14, x1)), (0, (2, 60, 0, 0, 0))] [] M0
        exact hgo.2.1 40 _ _ _ _ (xa_subI rfl rfl (fun _ _ _ _ => by omega) (xa_subI rfl rfl (fun _ _ _ _ => by omega) (xa_subR rfl xa_sub0))) (loop2 17 0 M0 (by omega) hc h20 hK xk_J0 (by omega) (by omega) (by omega))
  have loop0 : ∀ (n : Nat) (x1 : Int) (M1 : xa_M), 0 ≤ x1 ∧ x1 ≤ 14 → xm_cor M M1 → M1 60 20 = M 60 20 → (∀ w, 0 ≤ w → w < x1 → M1 93 w = w) → x1 ≤ M 60 0 → 14 - x1 < (n : Int) → Q 7 [(1, (0, 0, 0, 14, x1)), (0, (2, 60, 0, 0, 0))] [] M1 := by
    intro n
    induction n with
    | zero => intro x1 M1 b1 hc h20 hw h1 hms; omega
    | succ n ih =>
      intro x1 M1 b1 hc h20 hw h1 hms
      have e0 := xm_corf hc 0 (by omega)
      refine hgo.1 16 [7, 30, 40, 112, 122, 168, 191] 7 _ _ _ ?_
      refine And.intro ?_ ?_
      · intro (c1 : (M1 60 0) ≤ x1)
        show Q 30 [(1, (0, 0, 0, 0, 0)), (0, (2, 60, 0, 0, 0))] [] M1
        have hid : ∀ w, 0 ≤ w → w < M 60 0 → (fun w => M1 93 w) w = w := fun w w0 w1 => hw w w0 (by omega)
        exact hgo.2.1 30 _ _ _ _ (xa_subI rfl rfl (fun _ _ _ _ => by omega) (xa_subR rfl xa_sub0)) (loop1 15 0 M1 (by omega) hc h20 (xk_K0 hid) (xk_R0 hab hid) (by omega) (by omega))
      · intro (c1 : x1 < (M1 60 0))
        refine And.intro (show 0 ≤ x1 ∧ x1 < 14 by omega) ?_
        refine And.intro (show 0 ≤ x1 ∧ x1 ≤ 13 by omega) ?_
        show Q 7 [(1, (0, 0, 1, 15, x1 + 1)), (0, (2, 60, 0, 0, 0))] [] (xa_up M1 93 x1 x1)
        refine hgo.2.1 7 _ _ _ _ (xa_subI rfl rfl (fun _ _ _ _ => by omega) (xa_subR rfl xa_sub0)) (ih (x1 + 1) (xa_up M1 93 x1 x1) (by omega) (xm_cor_a rfl hc) ((xa_up_ne (by omega)).trans h20) (fun w w0 w1 => ?_) (by omega) (by omega))
        rcases Int.lt_or_eq_of_le (show w ≤ x1 by omega) with c | c
        · rw [xa_up_ne (by omega)]
          exact hw w w0 c
        · rw [c]
          simp [xa_up]
  refine hgo.1 10 [7, 30, 40, 112, 122, 168, 191] 0 _ _ _ ?_
  show Q 7 [(1, (0, 0, 0, 0, 0)), (0, (2, 60, 0, 0, 0))] [] (xa_up M 60 21 0)
  refine hgo.2.1 7 _ _ _ _ (xa_subI rfl rfl (fun _ _ _ _ => by omega) (xa_subR rfl xa_sub0)) (loop0 15 0 (xa_up M 60 21 0) (by omega) (xm_cor_f (by omega) xm_cor_r) (xa_up_ne (by omega)) (fun w w0 w1 => by omega) (by omega) (by omega))
theorem rz_p151 (A : Nat → Nat) (cmp : Bool) : iv_pair (rz_J A) A 151 267 [] cmp false := rz_armV (fun W b h as M hJ hM hInv hs hR hz => by
  obtain rfl := iv_sp0 hs
  have b0 := xm_f0 (xa_H_Mok hM)
  have b6 := xm_f6 (xa_H_Mok hM)
  have r1 : iv_num h 1 9 = M 60 0 := hR.1.1
  have r2 : iv_num h 1 10 = M 60 6 := hR.1.2.1
  have r3 : ∀ i, 0 ≤ i → i < 14 → iv_num h 2 i = M 61 i ∧ iv_num h 3 i = M 62 i ∧ iv_num h 5 i = M 64 i ∧ iv_num h 6 i = M 65 i ∧ iv_num h 4 i = M 63 i := hR.1.2.2.1
  have r4 : ∀ i, 0 ≤ i → i < 16 → iv_num h 7 i = M 66 i ∧ iv_num h 8 i = M 67 i := hR.1.2.2.2
  have hS := hR.2
  have hX : lm_X (xj (iv_num h) M) := hR.2.2
  have hMk := xa_H_Mok hM
  have p9 : ∀ i, 0 ≤ i → i < 10 → iv_num h 9 i = M 68 i := hX.2.2.2.2.2.2.2.2.2.2.2.2.2.2.1
  have p10 : ∀ i, 0 ≤ i → i < 10 → iv_num h 10 i = M 69 i := hX.2.2.2.2.2.2.2.2.2.2.2.2.2.2.2
  have q9 : ∀ i, 0 ≤ i → i < 10 → -500 ≤ iv_num h 9 i ∧ iv_num h 9 i ≤ 500 := fun i i0 i1 => by rw [p9 i i0 i1]; exact xm_t68 hMk i i0 i1
  have q10 : ∀ i, 0 ≤ i → i < 10 → -500 ≤ iv_num h 10 i ∧ iv_num h 10 i ≤ 500 := fun i i0 i1 => by rw [p10 i i0 i1]; exact xm_t69 hMk i i0 i1
  have q5 : ∀ i, 0 ≤ i → i < 14 → 0 ≤ iv_num h 5 i ∧ iv_num h 5 i ≤ 9 := fun i i0 i1 => by rw [(r3 i i0 i1).2.2.1]; exact xm_t64 hMk i i0 i1
  have q6 : ∀ i, 0 ≤ i → i < 14 → 0 ≤ iv_num h 6 i ∧ iv_num h 6 i ≤ 9 := fun i i0 i1 => by rw [(r3 i i0 i1).2.2.2.1]; exact xm_t65 hMk i i0 i1
  have hF : pl_F (iv_num h) := ⟨by omega, by omega, fun k k0 k1 => by
    have a1 := (r4 k k0 (by omega)).1
    have a2 := (r4 k k0 (by omega)).2
    have u1 := xm_t66 hMk k k0 (by omega)
    have u2 := xm_t67 hMk k k0 (by omega)
    omega, q9, q10, q5, q6, fun i i0 i1 => by
    have a1 := (r3 i i0 i1).2.2.2.2
    have a2 := xm_t63 hMk i i0 i1
    omega⟩
  have hab : xk_ab (iv_num h 1 9) (iv_num h 1 10) (iv_num h 7) (iv_num h 8) := fun i i0 i1 => by
    have a1 := (r4 i i0 (by omega)).1
    have a2 := (r4 i i0 (by omega)).2
    have u1 := xm_t66 hMk i i0 (by omega)
    have u2 := xm_t67 hMk i i0 (by omega)
    have u3 := hInv.2.1 i i0 (by omega)
    omega
  have conv : ∀ r, dq_A (M 60 0) (xm_inw M) (M 66) (M 67) (M 60 6) r → dq_A (iv_num h 1 9) (dp_W (iv_num h 9) (iv_num h 10) (iv_num h 5) (iv_num h 4) (iv_num h 7) (iv_num h 8) (iv_num h 1 10)) (iv_num h 7) (iv_num h 8) (iv_num h 1 10) r := fun r hA => dq_Ae r1 r2 (fun v u v0 v1 u0 u1 => by
    rw [dp_iw, r2]
    exact dp_We b6.2 p9 p10 (fun i i0 i1 => (r3 i i0 i1).2.2.1) (fun i i0 i1 => (r3 i i0 i1).2.2.2.2) (fun i i0 i1 => (r4 i i0 i1).1) (fun i i0 i1 => (r4 i i0 i1).2) (fun i i0 i1 => xm_t64 hMk i i0 i1) v0 (by omega) u0 (by omega)) (fun m m0 m1 => (r4 m m0 (by omega)).1) (fun m m0 m1 => (r4 m m0 (by omega)).2) hA
  have hc := rx_151 (b := b) (A := A) (h0 := h) (d := 26) (M := iv_num h) (post := fun o M1 => ∃ lo hi n, o = some (0, 0, lo, hi, n) ∧ ((dq_A (iv_num h 1 9) (dp_W (iv_num h 9) (iv_num h 10) (iv_num h 5) (iv_num h 4) (iv_num h 7) (iv_num h 8) (iv_num h 1 10)) (iv_num h 7) (iv_num h 8) (iv_num h 1 10) n ∧ dp_K (iv_num h) M1) ∧ rz_c (0 ≤ n) (iv_num h 48 1) (M1 48 1) (M 60 0))) hF hab (fun M1 r hK hA z => ⟨_, _, _, rfl, ⟨hA, hK⟩, by rw [r1] at z; exact z⟩)
  have hm := fun (h1 : g_H) => rm_depths (A := A) (h0 := h1) (d := 41) (M := M) (post := fun o M2 => (∃ lo hi n, o = some (0, 0, lo, hi, n) ∧ ((dq_A (M 60 0) (xm_inw M) (M 66) (M 67) (M 60 6) n ∧ xm_cor M M2) ∧ rz_c (0 ≤ n) (M 60 20) (M2 60 20) (M 60 0))) ∧ xm_Inv M2) hInv (fun r M2 hc hA z => ⟨⟨_, _, _, rfl, ⟨hA, hc⟩, z⟩, xm_Inv_cor hc hInv⟩)
  refine ⟨[(2, 0, 0, 0, 0)], [(2, 60, 0, 0, 0)], _, _, ⟨rfl, trivial⟩, ⟨rfl, trivial⟩, fun n n' M1 M2 h1 h2 => ⟨fun _ => dq_A1 h1.1.1 (conv _ h2.1.1), fun x => h2.1.2 104 x (by unfold xm_scr; omega), fun x => h2.1.2 105 x (by unfold xm_scr; omega), xq_lmR hR (fun q j hC hq => h1.1.2 q j (by first | (have t9 := lm_Cq hC; omega) | (unfold lm_C at hC; omega)) (by first | (have t9 := lm_Cq hC; omega) | (unfold lm_C at hC; omega)) (by first | (have t9 := lm_Cq hC; omega) | (unfold lm_C at hC; omega))) h2.1.2, rz_c2 (dq_A1 h1.1.1 (conv _ h2.1.1)) h1.2 h2.2 hz⟩, hc, hm⟩)
