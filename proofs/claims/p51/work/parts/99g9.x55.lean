-- common: the reference
set_option maxRecDepth 20000
theorem xm_t92h {M : xa_M} (hM : xa_Mok xm_I M) (j : Int) (h0 : 0 ≤ j) (h1 : j < 401) : -2147483648 ≤ M 92 j ∧ M 92 j ≤ 2147483647 := by
  obtain ⟨n, rfl⟩ := Int.eq_ofNat_of_zero_le h0
  exact hM 92 _ _ rfl n (show n < 401 by omega) (show (0 : Nat) < 2 by decide)
theorem ms_commonF {A : Nat → Nat} {h0 : g_H} {d : Nat} {M : xa_M} {post : Option xa_V → xa_M → Prop} {l1 u1 : Int} {a : Int} (hI : xm_Inv M) (k : ∀ (lo hi r : Int) (M1 : xa_M), cm_P (M 60 15) (M 60 16) (M 60 11) (M 70) (M 71) a r → xm_cor M M1 → post (some (0, 0, lo, hi, r)) M1) : xa_C xm_I A h0 (d + 3) 261 [(2, 60, 0, 0, 0), (0, 0, l1, u1, a)] M post := by
  refine xa_C_arg [(2, 60, 0, 0, 0), (0, 0, (-2147483648), 2147483647, a)] (xa_svR (xa_svI (fun _ _ _ _ => by omega) xa_sv0)) ?_
  refine xa_meth (Q0 := (6, 1, false, 0, 0, 12)) (by decide +kernel) ⟨rfl, rfl⟩ (full := s_c_261) rfl rfl ?_
  intro hM hv Q hgo
  have b0 := xm_f0 hM
  have b6 := xm_f6 hM
  have b61 := xm_f61 hM
  have b11 := xm_f11 hM
  have b15 := xm_f15 hM
  have b16 := xm_f16 hM
  have hlh := hI.2.2.2.1
  have loop5 : ∀ (n : Nat) (x3 x2 : Int) (M1 : xa_M), 10 ≤ x3 ∧ x3 ≤ 401 → 10 ≤ x2 ∧ x2 ≤ 400 → xm_cor M M1 → ((0 < a ∧ a < xa_ib 6 1 (M 60 11)) ∧ M 60 16 - M 60 15 ≤ 60) → (M 60 15 ≤ x3 ∧ x3 ≤ M 60 16 + 1 ∧ M 60 15 ≤ x2 ∧ x2 ≤ M 60 16) → (∀ t : Int, M 60 15 ≤ t → t ≤ M 60 16 → M1 92 t = cm_w (M 60 15) (M 60 16) (M 60 11) a (M 70) (M 71) t) → x2 = cm_x (fun t => xa_bc (cm_w (M 60 15) (M 60 16) (M 60 11) a (M 70) (M 71) t)) (M 60 15) (x3 - M 60 15).toNat → 401 - x3 < (n : Int) → Q 237 [(3, (0, 0, 10, 401, x3)), (2, (0, 0, 10, 400, x2)), (0, (2, 60, 0, 0, 0))] [] M1 := by
    intro n
    induction n with
    | zero => intro x3 x2 M1 b3 b2 hc hgd h9 hw hx hms; omega
    | succ n ih5 =>
      intro x3 x2 M1 b3 b2 hc hgd h9 hw hx hms5
      have g2 := hw x2 (by omega) (by omega)
      have e0 := xm_corf hc 0 (by omega)
      have e6 := xm_corf hc 6 (by omega)
      have e61 := xm_corf hc 61 (by omega)
      have e11 := xm_corf hc 11 (by omega)
      have e15 := xm_corf hc 15 (by omega)
      have e16 := xm_corf hc 16 (by omega)
      refine hgo.1 25 [40, 62, 86, 97, 142, 237] 237 _ _ _ ?_
      refine And.intro ?_ ?_
      · intro (c1 : (M1 60 16) < x3)
        refine And.intro ?_ ?_
        · intro (c2 : ¬ (M1 92 x2) = 0)
          show xa_C xm_I A h0 _ 231 [(2, 60, 0, 0, 0), (1, 0, (-2147483648), 2147483647, M1 92 x2)] (xa_up M1 60 20 0) _
          refine ct_tell (n := 0) (by first | rfl | (simp [xa_up]; done) | omega) (by omega) (by omega) ?_
          show post (some (0, 0, 10, 400, x2)) (xa_up (xa_up (xa_up M1 60 20 0) 74 0 (M1 92 x2)) 60 20 1)
          have ei : (x3 - M 60 15).toNat = (M 60 16 + 1 - M 60 15).toNat := by omega
          rw [ei] at hx
          exact k _ _ x2 _ (Or.inr ⟨hgd.1, Or.inr ⟨hgd.2, cm_r1 hx (fun e => c2 (g2.trans e))⟩⟩) (xm_cor_f (by omega) (xm_cor_a rfl (xm_cor_f (by omega) hc)))
        · intro (c2 : (M1 92 x2) = 0)
          show post (some (0, 0, (-2), (-2), (-2))) M1
          have ei : (x3 - M 60 15).toNat = (M 60 16 + 1 - M 60 15).toNat := by omega
          rw [ei] at hx
          exact k _ _ (-2) _ (Or.inr ⟨hgd.1, Or.inr ⟨hgd.2, cm_r0 hx (g2.symm.trans c2)⟩⟩) hc
      · intro (c1 : x3 ≤ (M1 60 16))
        refine And.intro (show 0 ≤ x3 ∧ x3 < 401 by omega) ?_
        show xa_C xm_I A h0 _ 136 [(0, 0, (-2147483648), 2147483647, M1 92 x3)] M1 _
        refine ct_bitCount ?_
        show xa_C xm_I A h0 _ 136 [(0, 0, (-2147483648), 2147483647, M1 92 x2)] M1 _
        refine ct_bitCount ?_
        refine And.intro ?_ ?_
        · intro (c3 : (xa_bc (M1 92 x3)) ≤ (xa_bc (M1 92 x2)))
          show Q 237 [(3, (0, 0, 11, 402, x3 + 1)), (2, (0, 0, 10, 400, x2)), (0, (2, 60, 0, 0, 0))] [] M1
          refine hgo.2.1 237 _ [(3, (0, 0, 10, 401, x3 + 1)), (2, (0, 0, 10, 400, x2)), (0, (2, 60, 0, 0, 0))] _ _ (xa_subI rfl rfl (fun _ _ _ _ => by omega) (xa_subI rfl rfl (fun _ _ _ _ => by omega) (xa_subR rfl xa_sub0))) ?_
          have g1 := hw x3 (by omega) (by omega)
          rw [g1, g2] at c3
          exact ih5 (x3 + 1) x2 M1 (by omega) (by omega) hc hgd (by omega) hw (by rw [show (x3 + 1 - M 60 15).toNat = (x3 - M 60 15).toNat + 1 by omega]; exact cm_x0 hx (show x3 = M 60 15 + (((x3 - M 60 15).toNat : Nat) : Int) by omega) (Int.not_lt.mpr c3)) (by omega)
        · intro (c3 : (xa_bc (M1 92 x2)) < (xa_bc (M1 92 x3)))
          show Q 237 [(3, (0, 0, 11, 402, x3 + 1)), (2, (0, 0, 10, 401, x3)), (0, (2, 60, 0, 0, 0))] [] M1
          refine hgo.2.1 237 _ [(3, (0, 0, 10, 401, x3 + 1)), (2, (0, 0, 10, 400, x3)), (0, (2, 60, 0, 0, 0))] _ _ (xa_subI rfl rfl (fun _ _ _ _ => by omega) (xa_subI rfl rfl (fun _ _ _ _ => by omega) (xa_subR rfl xa_sub0))) ?_
          have g1 := hw x3 (by omega) (by omega)
          rw [g1, g2] at c3
          exact ih5 (x3 + 1) x3 M1 (by omega) (by omega) hc hgd (by omega) hw (by rw [show (x3 + 1 - M 60 15).toNat = (x3 - M 60 15).toNat + 1 by omega]; exact cm_x1 hx (show x3 = M 60 15 + (((x3 - M 60 15).toNat : Nat) : Int) by omega) c3) (by omega)
  have loop1 : ∀ (n : Nat) (x2 x1 : Int) (M1 : xa_M), 0 ≤ x2 ∧ x2 ≤ 8 → xm_cor M M1 → ((0 < a ∧ a < xa_ib 6 1 (M 60 11)) ∧ M 60 16 - M 60 15 ≤ 60) → (x1 = a ∧ x2 ≤ M 60 11) → (∀ t : Int, M 60 15 ≤ t → t ≤ M 60 16 → M1 92 t = cm_f (cm_p (M 60 15) (M 60 16) a (M 70) (M 71)) 0 x2.toNat (fun _ => 0) t) → 8 - x2 < (n : Int) → Q 62 [(2, (0, 0, 0, 8, x2)), (1, (0, 0, (-2147483648), 2147483647, x1)), (0, (2, 60, 0, 0, 0))] [] M1 := by
    intro n
    induction n with
    | zero => intro x2 x1 M1 b2 hc hgd h9 hw hms; omega
    | succ n ih1 =>
      intro x2 x1 M1 b2 hc hgd h9 hw hms1
      have e0 := xm_corf hc 0 (by omega)
      have e6 := xm_corf hc 6 (by omega)
      have e61 := xm_corf hc 61 (by omega)
      have e11 := xm_corf hc 11 (by omega)
      have e15 := xm_corf hc 15 (by omega)
      have e16 := xm_corf hc 16 (by omega)
      have loop2 : ∀ (n : Nat) (x3 : Int) (M1 : xa_M), 10 ≤ x3 ∧ x3 ≤ 401 → 0 ≤ x2 ∧ x2 ≤ 7 → xm_cor M M1 → x2 < M 60 11 → xa_ib 3 (xa_ib 7 a x2) 1 = 1 → (M 60 15 ≤ x3 ∧ x3 ≤ M 60 16 + 1) → (∀ t : Int, M 60 15 ≤ t → t ≤ M 60 16 → M1 92 t = cm_f (cm_a (M 60 15) (M 60 16) (M 70 x2) (M 71 x2) (xa_ib 6 1 x2)) (M 60 15) (x3 - M 60 15).toNat (cm_f (cm_p (M 60 15) (M 60 16) a (M 70) (M 71)) 0 x2.toNat (fun _ => 0)) t) → 401 - x3 < (n : Int) → Q 86 [(3, (0, 0, 10, 401, x3)), (2, (0, 0, 0, 7, x2)), (1, (0, 0, (-2147483648), 2147483647, x1)), (0, (2, 60, 0, 0, 0))] [] M1 := by
        intro n
        induction n with
        | zero => intro x3 M1 b3 f2 hc hx2 hbit h93 hw2 hms; omega
        | succ n ih2 =>
          intro x3 M1 b3 f2 hc hx2 hbit h93 hw2 hms2
          have p7 := hI.2.2.1 x2 (by omega) hx2
          have t70 := xm_t70 hM x2 (by omega) (by omega)
          have t71 := xm_t71 hM x2 (by omega) (by omega)
          have e0 := xm_corf hc 0 (by omega)
          have e6 := xm_corf hc 6 (by omega)
          have e61 := xm_corf hc 61 (by omega)
          have e11 := xm_corf hc 11 (by omega)
          have e15 := xm_corf hc 15 (by omega)
          have e16 := xm_corf hc 16 (by omega)
          have loop3 : ∀ (n : Nat) (x4 : Int) (M1 : xa_M), 10 ≤ x4 ∧ x4 ≤ 401 → 10 ≤ x3 ∧ x3 ≤ 400 → 0 ≤ x2 ∧ x2 ≤ 7 → xm_cor M M1 → x2 < M 60 11 → (x3 ≤ x4 ∧ x4 ≤ M 60 16 + 1 ∧ x3 ≤ M 60 16) → (∀ t : Int, M 60 15 ≤ t → t ≤ M 60 16 → M1 92 t = cm_f (cm_b (M 60 15) (M 60 16) (M 70 x2) (M 71 x2) (xa_ib 6 1 x2) x3) x3 (x4 - x3).toNat (cm_f (cm_a (M 60 15) (M 60 16) (M 70 x2) (M 71 x2) (xa_ib 6 1 x2)) (M 60 15) (x3 - M 60 15).toNat (cm_f (cm_p (M 60 15) (M 60 16) a (M 70) (M 71)) 0 x2.toNat (fun _ => 0))) t) → 401 - x4 < (n : Int) → Q 97 [(4, (0, 0, 10, 401, x4)), (3, (0, 0, 10, 400, x3)), (2, (0, 0, 0, 7, x2)), (1, (0, 0, (-2147483648), 2147483647, x1)), (0, (2, 60, 0, 0, 0))] [] M1 := by
            intro n
            induction n with
            | zero => intro x4 M1 b4 f3 f2 hc hx2 h94 hw3 hms; omega
            | succ n ih3 =>
              intro x4 M1 b4 f3 f2 hc hx2 h94 hw3 hms3
              refine hgo.2.2 _ _ _ _ (fun hM1 _ => ?_)
              have e0 := xm_corf hc 0 (by omega)
              have e6 := xm_corf hc 6 (by omega)
              have e61 := xm_corf hc 61 (by omega)
              have e11 := xm_corf hc 11 (by omega)
              have e15 := xm_corf hc 15 (by omega)
              have e16 := xm_corf hc 16 (by omega)
              have loop4 : ∀ (n : Nat) (x5 : Int) (M1 : xa_M), 10 ≤ x5 ∧ x5 ≤ 401 → 10 ≤ x4 ∧ x4 ≤ 400 → 10 ≤ x3 ∧ x3 ≤ 400 → 0 ≤ x2 ∧ x2 ≤ 7 → xm_cor M M1 → x2 < M 60 11 → (M 60 15 ≤ x5 ∧ x5 ≤ M 60 16 + 1 ∧ x4 ≤ M 60 16) → (((∃ c : Int, M 60 15 ≤ c ∧ c < x5 ∧ x3 * x4 * M 71 x2 % (c * M 70 x2) = 0 ∧ M 60 15 ≤ x3 * x4 * M 71 x2 / (c * M 70 x2) ∧ x3 * x4 * M 71 x2 / (c * M 70 x2) ≤ M 60 16) → ∀ t : Int, M 60 15 ≤ t → t ≤ M 60 16 → M1 92 t = cm_m (xa_ib 6 1 x2) x3 x4 (cm_f (cm_b (M 60 15) (M 60 16) (M 70 x2) (M 71 x2) (xa_ib 6 1 x2) x3) x3 (x4 - x3).toNat (cm_f (cm_a (M 60 15) (M 60 16) (M 70 x2) (M 71 x2) (xa_ib 6 1 x2)) (M 60 15) (x3 - M 60 15).toNat (cm_f (cm_p (M 60 15) (M 60 16) a (M 70) (M 71)) 0 x2.toNat (fun _ => 0)))) t) ∧ (¬ (∃ c : Int, M 60 15 ≤ c ∧ c < x5 ∧ x3 * x4 * M 71 x2 % (c * M 70 x2) = 0 ∧ M 60 15 ≤ x3 * x4 * M 71 x2 / (c * M 70 x2) ∧ x3 * x4 * M 71 x2 / (c * M 70 x2) ≤ M 60 16) → ∀ t : Int, M 60 15 ≤ t → t ≤ M 60 16 → M1 92 t = cm_f (cm_b (M 60 15) (M 60 16) (M 70 x2) (M 71 x2) (xa_ib 6 1 x2) x3) x3 (x4 - x3).toNat (cm_f (cm_a (M 60 15) (M 60 16) (M 70 x2) (M 71 x2) (xa_ib 6 1 x2)) (M 60 15) (x3 - M 60 15).toNat (cm_f (cm_p (M 60 15) (M 60 16) a (M 70) (M 71)) 0 x2.toNat (fun _ => 0))) t)) → 401 - x5 < (n : Int) → Q 142 [(5, (0, 0, 10, 401, x5)), (4, (0, 0, 10, 400, x4)), (3, (0, 0, 10, 400, x3)), (2, (0, 0, 0, 7, x2)), (1, (0, 0, (-2147483648), 2147483647, x1)), (0, (2, 60, 0, 0, 0))] [] M1 := by
                intro n
                induction n with
                | zero => intro x5 M1 b5 f4 f3 f2 hc hx2 h95 hw4 hms; omega
                | succ n ih4 =>
                  intro x5 M1 b5 f4 f3 f2 hc hx2 h95 hw4 hms4
                  have e0 := xm_corf hc 0 (by omega)
                  have e6 := xm_corf hc 6 (by omega)
                  have e61 := xm_corf hc 61 (by omega)
                  have e11 := xm_corf hc 11 (by omega)
                  have e15 := xm_corf hc 15 (by omega)
                  have e16 := xm_corf hc 16 (by omega)
                  refine hgo.1 43 [40, 62, 86, 97, 142, 237] 142 _ _ _ ?_
                  refine And.intro ?_ ?_
                  · intro (c1 : (M1 60 16) < x5)
                    show Q 97 [(4, (0, 0, 11, 401, x4 + 1)), (5, (0, 0, 10, 401, x5)), (3, (0, 0, 10, 400, x3)), (2, (0, 0, 0, 7, x2)), (1, (0, 0, (-2147483648), 2147483647, x1)), (0, (2, 60, 0, 0, 0))] [] M1
                    refine hgo.2.1 97 _ [(4, (0, 0, 10, 401, x4 + 1)), (3, (0, 0, 10, 400, x3)), (2, (0, 0, 0, 7, x2)), (1, (0, 0, (-2147483648), 2147483647, x1)), (0, (2, 60, 0, 0, 0))] _ _ (xa_subI rfl rfl (fun _ _ _ _ => by omega) (xa_subI rfl rfl (fun _ _ _ _ => by omega) (xa_subI rfl rfl (fun _ _ _ _ => by omega) (xa_subI rfl rfl (fun _ _ _ _ => by omega) (xa_subR rfl xa_sub0))))) ?_
                    have e5 : x5 = M 60 16 + 1 := by omega
                    rw [e5] at hw4
                    exact ih3 (x4 + 1) M1 (by omega) (by omega) (by omega) hc (by omega) (by omega) (fun t t0 t1 => by
                      rw [cm_fp (show x3 ≤ x4 by omega)]
                      by_cases hk : (∃ c : Int, M 60 15 ≤ c ∧ c < M 60 16 + 1 ∧ x3 * x4 * M 71 x2 % (c * M 70 x2) = 0 ∧ M 60 15 ≤ x3 * x4 * M 71 x2 / (c * M 70 x2) ∧ x3 * x4 * M 71 x2 / (c * M 70 x2) ≤ M 60 16)
                      · rw [cm_b1 ((cm_ke (by omega) (by omega)).mpr (by obtain ⟨c, g1, g2, g3⟩ := hk; exact ⟨c, g1, by omega, g3⟩))]
                        exact hw4.1 hk t t0 t1
                      · rw [cm_b0 (fun h => hk (by obtain ⟨c, g1, g2, g3⟩ := (cm_ke (by omega) (by omega)).mp h; exact ⟨c, g1, by omega, g3⟩))]
                        exact hw4.2 hk t t0 t1) (by omega)
                  · intro (c1 : x5 ≤ (M1 60 16))
                    show xa_C xm_I A h0 _ 258 [(2, 60, 0, 0, 0), (0, 0, 0, 7, x2), (0, 0, 10, 400, x3), (0, 0, 10, 400, x4), (0, 0, 10, 401, x5)] M1 _
                    refine ct_fourthF (xm_Inv_cor hc hI) (by omega) (by rw [xm_corf hc 11 (by omega)]; omega) (by omega) (by omega) (by omega) (by omega) (by omega) (by omega) (fun r2 br2 er2 => ?_)
                    rw [hc 70 x2 (by unfold xm_scr; omega), hc 71 x2 (by unfold xm_scr; omega)] at er2
                    show xa_C xm_I A h0 _ 214 [(0, 0, 0, 1000, r2), (0, 0, 10, 400, M1 60 15), (0, 0, 10, 400, M1 60 16)] M1 _
                    refine ct_in ?_ ?_
                    · intro (i3 : (M1 60 15) ≤ r2 ∧ r2 ≤ (M1 60 16))
                      show Q 142 [(5, (0, 0, 11, 402, x5 + 1)), (4, (0, 0, 10, 400, x4)), (3, (0, 0, 10, 400, x3)), (2, (0, 0, 0, 7, x2)), (1, (0, 0, (-2147483648), 2147483647, x1)), (0, (2, 60, 0, 0, 0))] [] (xa_up (xa_up M1 92 x3 (xa_ib 4 (M1 92 x3) (xa_ib 6 1 x2))) 92 x4 (xa_ib 4 ((xa_up M1 92 x3 (xa_ib 4 (M1 92 x3) (xa_ib 6 1 x2))) 92 x4) (xa_ib 6 1 x2)))
                      refine hgo.2.1 142 _ [(5, (0, 0, 10, 401, x5 + 1)), (4, (0, 0, 10, 400, x4)), (3, (0, 0, 10, 400, x3)), (2, (0, 0, 0, 7, x2)), (1, (0, 0, (-2147483648), 2147483647, x1)), (0, (2, 60, 0, 0, 0))] _ _ (xa_subI rfl rfl (fun _ _ _ _ => by omega) (xa_subI rfl rfl (fun _ _ _ _ => by omega) (xa_subI rfl rfl (fun _ _ _ _ => by omega) (xa_subI rfl rfl (fun _ _ _ _ => by omega) (xa_subI rfl rfl (fun _ _ _ _ => by omega) (xa_subR rfl xa_sub0)))))) ?_
                      have kc : x3 * x4 * M 71 x2 % (x5 * M 70 x2) = 0 ∧ M 60 15 ≤ x3 * x4 * M 71 x2 / (x5 * M 70 x2) ∧ x3 * x4 * M 71 x2 / (x5 * M 70 x2) ≤ M 60 16 := by
                        rcases er2 with ⟨e1, e2⟩ | ⟨e1, e2, e3, e4⟩
                        · omega
                        · exact ⟨e1, by omega, by omega⟩
                      exact ih4 (x5 + 1) (xa_up (xa_up M1 92 x3 (xa_ib 4 (M1 92 x3) (xa_ib 6 1 x2))) 92 x4 (xa_ib 4 ((xa_up M1 92 x3 (xa_ib 4 (M1 92 x3) (xa_ib 6 1 x2))) 92 x4) (xa_ib 6 1 x2))) (by omega) (by omega) (by omega) (by omega) (xm_cor_a rfl (xm_cor_a rfl hc)) (by omega) (by omega) ⟨fun _ => by
                        by_cases hk : (∃ c : Int, M 60 15 ≤ c ∧ c < x5 ∧ x3 * x4 * M 71 x2 % (c * M 70 x2) = 0 ∧ M 60 15 ≤ x3 * x4 * M 71 x2 / (c * M 70 x2) ∧ x3 * x4 * M 71 x2 / (c * M 70 x2) ≤ M 60 16)
                        · have h := cm_up (g := fun t => t) (m := (xa_ib 6 1 x2)) (fun x y e => e) (hw4.1 hk) (show M 60 15 ≤ x3 ∧ x3 ≤ M 60 16 by omega) (show M 60 15 ≤ x4 ∧ x4 ≤ M 60 16 by omega)
                          rw [cm_mm] at h
                          exact h
                        · exact cm_up (g := fun t => t) (m := (xa_ib 6 1 x2)) (fun x y e => e) (hw4.2 hk) (show M 60 15 ≤ x3 ∧ x3 ≤ M 60 16 by omega) (show M 60 15 ≤ x4 ∧ x4 ≤ M 60 16 by omega), fun h => absurd ⟨x5, by omega, by omega, kc⟩ h⟩ (by omega)
                    · intro (i3 : ¬ ((M1 60 15) ≤ r2 ∧ r2 ≤ (M1 60 16)))
                      show Q 142 [(5, (0, 0, 11, 402, x5 + 1)), (4, (0, 0, 10, 400, x4)), (3, (0, 0, 10, 400, x3)), (2, (0, 0, 0, 7, x2)), (1, (0, 0, (-2147483648), 2147483647, x1)), (0, (2, 60, 0, 0, 0))] [] M1
                      refine hgo.2.1 142 _ [(5, (0, 0, 10, 401, x5 + 1)), (4, (0, 0, 10, 400, x4)), (3, (0, 0, 10, 400, x3)), (2, (0, 0, 0, 7, x2)), (1, (0, 0, (-2147483648), 2147483647, x1)), (0, (2, 60, 0, 0, 0))] _ _ (xa_subI rfl rfl (fun _ _ _ _ => by omega) (xa_subI rfl rfl (fun _ _ _ _ => by omega) (xa_subI rfl rfl (fun _ _ _ _ => by omega) (xa_subI rfl rfl (fun _ _ _ _ => by omega) (xa_subI rfl rfl (fun _ _ _ _ => by omega) (xa_subR rfl xa_sub0)))))) ?_
                      have ek : (∃ c : Int, M 60 15 ≤ c ∧ c < x5 + 1 ∧ x3 * x4 * M 71 x2 % (c * M 70 x2) = 0 ∧ M 60 15 ≤ x3 * x4 * M 71 x2 / (c * M 70 x2) ∧ x3 * x4 * M 71 x2 / (c * M 70 x2) ≤ M 60 16) ↔ (∃ c : Int, M 60 15 ≤ c ∧ c < x5 ∧ x3 * x4 * M 71 x2 % (c * M 70 x2) = 0 ∧ M 60 15 ≤ x3 * x4 * M 71 x2 / (c * M 70 x2) ∧ x3 * x4 * M 71 x2 / (c * M 70 x2) ≤ M 60 16) := by
                        constructor
                        · rintro ⟨c, g1, g2, g3⟩
                          by_cases e : c = x5
                          · exfalso
                            rw [e] at g3
                            rcases er2 with ⟨e1, e2⟩ | ⟨e1, e2, e3, e4⟩
                            · exact e1 g3.1
                            · omega
                          · exact ⟨c, g1, by omega, g3⟩
                        · rintro ⟨c, g1, g2, g3⟩
                          exact ⟨c, g1, by omega, g3⟩
                      exact ih4 (x5 + 1) M1 (by omega) (by omega) (by omega) (by omega) hc (by omega) (by omega) ⟨fun h => hw4.1 (ek.mp h), fun h => hw4.2 (fun g => h (ek.mpr g))⟩ (by omega)
              refine hgo.1 26 [40, 62, 86, 97, 142, 237] 97 _ _ _ ?_
              refine And.intro ?_ ?_
              · intro (c1 : (M1 60 16) < x4)
                show Q 86 [(3, (0, 0, 11, 401, x3 + 1)), (4, (0, 0, 10, 401, x4)), (2, (0, 0, 0, 7, x2)), (1, (0, 0, (-2147483648), 2147483647, x1)), (0, (2, 60, 0, 0, 0))] [] M1
                refine hgo.2.1 86 _ [(3, (0, 0, 10, 401, x3 + 1)), (2, (0, 0, 0, 7, x2)), (1, (0, 0, (-2147483648), 2147483647, x1)), (0, (2, 60, 0, 0, 0))] _ _ (xa_subI rfl rfl (fun _ _ _ _ => by omega) (xa_subI rfl rfl (fun _ _ _ _ => by omega) (xa_subI rfl rfl (fun _ _ _ _ => by omega) (xa_subR rfl xa_sub0)))) ?_
                exact ih2 (x3 + 1) M1 (by omega) (by omega) hc (by omega) hbit (by omega) (by rw [show x4 = M 60 16 + 1 by omega] at hw3; intro t t0 t1; rw [cm_fp (show M 60 15 ≤ x3 by omega)]; exact hw3 t t0 t1) (by omega)
              · intro (c1 : x4 ≤ (M1 60 16))
                show xa_C xm_I A h0 _ 248 [(0, 0, (-2147483648), 2147483647, M1 92 x3), (0, 0, 0, 7, x2)] M1 _
                refine ct_has (fun r2 zr2 er2 => ?_)
                refine And.intro ?_ ?_
                · intro (c3 : r2 = 0)
                  show Q 142 [(5, (0, 0, 10, 400, M1 60 15)), (4, (0, 0, 10, 401, x4)), (3, (0, 0, 10, 400, x3)), (2, (0, 0, 0, 7, x2)), (1, (0, 0, (-2147483648), 2147483647, x1)), (0, (2, 60, 0, 0, 0))] [] M1
                  refine hgo.2.1 142 _ [(5, (0, 0, 10, 401, M1 60 15)), (4, (0, 0, 10, 400, x4)), (3, (0, 0, 10, 400, x3)), (2, (0, 0, 0, 7, x2)), (1, (0, 0, (-2147483648), 2147483647, x1)), (0, (2, 60, 0, 0, 0))] _ _ (xa_subI rfl rfl (fun _ _ _ _ => by omega) (xa_subI rfl rfl (fun _ _ _ _ => by omega) (xa_subI rfl rfl (fun _ _ _ _ => by omega) (xa_subI rfl rfl (fun _ _ _ _ => by omega) (xa_subI rfl rfl (fun _ _ _ _ => by omega) (xa_subR rfl xa_sub0)))))) ?_
                  exact loop4 402 (M1 60 15) M1 (by omega) (by omega) (by omega) (by omega) hc (by omega) (by omega) ⟨fun h => by obtain ⟨c, g1, g2, -⟩ := h; omega, fun _ => hw3⟩ (by omega)
                · intro (c3 : ¬ r2 = 0)
                  refine And.intro (show 0 ≤ x4 ∧ x4 < 401 by omega) ?_
                  show xa_C xm_I A h0 _ 248 [(0, 0, (-2147483648), 2147483647, M1 92 x4), (0, 0, 0, 7, x2)] M1 _
                  refine ct_has (fun r4 zr4 er4 => ?_)
                  refine And.intro ?_ ?_
                  · intro (c5 : r4 = 0)
                    show Q 142 [(5, (0, 0, 10, 400, M1 60 15)), (4, (0, 0, 10, 401, x4)), (3, (0, 0, 10, 400, x3)), (2, (0, 0, 0, 7, x2)), (1, (0, 0, (-2147483648), 2147483647, x1)), (0, (2, 60, 0, 0, 0))] [] M1
                    refine hgo.2.1 142 _ [(5, (0, 0, 10, 401, M1 60 15)), (4, (0, 0, 10, 400, x4)), (3, (0, 0, 10, 400, x3)), (2, (0, 0, 0, 7, x2)), (1, (0, 0, (-2147483648), 2147483647, x1)), (0, (2, 60, 0, 0, 0))] _ _ (xa_subI rfl rfl (fun _ _ _ _ => by omega) (xa_subI rfl rfl (fun _ _ _ _ => by omega) (xa_subI rfl rfl (fun _ _ _ _ => by omega) (xa_subI rfl rfl (fun _ _ _ _ => by omega) (xa_subI rfl rfl (fun _ _ _ _ => by omega) (xa_subR rfl xa_sub0)))))) ?_
                    exact loop4 402 (M1 60 15) M1 (by omega) (by omega) (by omega) (by omega) hc (by omega) (by omega) ⟨fun h => by obtain ⟨c, g1, g2, -⟩ := h; omega, fun _ => hw3⟩ (by omega)
                  · intro (c5 : ¬ r4 = 0)
                    show Q 97 [(4, (0, 0, 11, 402, x4 + 1)), (3, (0, 0, 10, 400, x3)), (2, (0, 0, 0, 7, x2)), (1, (0, 0, (-2147483648), 2147483647, x1)), (0, (2, 60, 0, 0, 0))] [] M1
                    refine hgo.2.1 97 _ [(4, (0, 0, 10, 401, x4 + 1)), (3, (0, 0, 10, 400, x3)), (2, (0, 0, 0, 7, x2)), (1, (0, 0, (-2147483648), 2147483647, x1)), (0, (2, 60, 0, 0, 0))] _ _ (xa_subI rfl rfl (fun _ _ _ _ => by omega) (xa_subI rfl rfl (fun _ _ _ _ => by omega) (xa_subI rfl rfl (fun _ _ _ _ => by omega) (xa_subI rfl rfl (fun _ _ _ _ => by omega) (xa_subR rfl xa_sub0))))) ?_
                    have v3 := xm_t92h hM1 x3 (by omega) (by omega)
                    have v4 := xm_t92h hM1 x4 (by omega) (by omega)
                    have u3 := cm_has v3.1 v3.2 (show 0 ≤ x2 by omega) (show x2 < 8 by omega) (er2.mp (by omega))
                    have u4 := cm_has v4.1 v4.2 (show 0 ≤ x2 by omega) (show x2 < 8 by omega) (er4.mp (by omega))
                    rw [hw3 x3 (by omega) (by omega)] at u3
                    rw [hw3 x4 (by omega) (by omega)] at u4
                    exact ih3 (x4 + 1) M1 (by omega) (by omega) (by omega) hc (by omega) (by omega) (fun t t0 t1 => by
                      rw [cm_fp (show x3 ≤ x4 by omega), hw3 t t0 t1]
                      by_cases hk : cm_k (M 60 15) (M 60 16) (M 70 x2) (M 71 x2) x3 x4
                      · rw [cm_b1 hk]
                        unfold cm_m
                        split
                        next h =>
                          rcases h with h | h
                          · rw [h]
                            exact u3.symm
                          · rw [h]
                            exact u4.symm
                        next => rfl
                      · rw [cm_b0 hk]) (by omega)
          refine hgo.1 11 [40, 62, 86, 97, 142, 237] 86 _ _ _ ?_
          refine And.intro ?_ ?_
          · intro (c1 : (M1 60 16) < x3)
            show Q 62 [(2, (0, 0, 1, 8, x2 + 1)), (3, (0, 0, 10, 401, x3)), (1, (0, 0, (-2147483648), 2147483647, x1)), (0, (2, 60, 0, 0, 0))] [] M1
            refine hgo.2.1 62 _ [(2, (0, 0, 0, 8, x2 + 1)), (1, (0, 0, (-2147483648), 2147483647, x1)), (0, (2, 60, 0, 0, 0))] _ _ (xa_subI rfl rfl (fun _ _ _ _ => by omega) (xa_subI rfl rfl (fun _ _ _ _ => by omega) (xa_subR rfl xa_sub0))) ?_
            have e3 : x3 = M 60 16 + 1 := by omega
            rw [e3] at hw2
            have ep : ((x2.toNat : Nat) : Int) = x2 := Int.toNat_of_nonneg (by omega)
            have en : (x2 + 1).toNat = x2.toNat + 1 := by omega
            have q1 : cm_f (cm_p (M 60 15) (M 60 16) a (M 70) (M 71)) 0 (x2 + 1).toNat (fun _ => 0) = cm_f (cm_a (M 60 15) (M 60 16) (M 70 x2) (M 71 x2) (xa_ib 6 1 x2)) (M 60 15) (M 60 16 + 1 - M 60 15).toNat (cm_f (cm_p (M 60 15) (M 60 16) a (M 70) (M 71)) 0 x2.toNat (fun _ => 0)) := by
              rw [en]
              show cm_p (M 60 15) (M 60 16) a (M 70) (M 71) (0 + ((x2.toNat : Nat) : Int)) (cm_f (cm_p (M 60 15) (M 60 16) a (M 70) (M 71)) 0 x2.toNat (fun _ => 0)) = _
              rw [Int.zero_add, ep]
              exact if_pos hbit
            exact ih1 (x2 + 1) x1 M1 (by omega) hc hgd (by omega) (fun t t0 t1 => by rw [q1]; exact hw2 t t0 t1) (by omega)
          · intro (c1 : x3 ≤ (M1 60 16))
            show Q 97 [(4, (0, 0, 10, 401, x3)), (3, (0, 0, 10, 401, x3)), (2, (0, 0, 0, 7, x2)), (1, (0, 0, (-2147483648), 2147483647, x1)), (0, (2, 60, 0, 0, 0))] [] M1
            refine hgo.2.1 97 _ [(4, (0, 0, 10, 401, x3)), (3, (0, 0, 10, 400, x3)), (2, (0, 0, 0, 7, x2)), (1, (0, 0, (-2147483648), 2147483647, x1)), (0, (2, 60, 0, 0, 0))] _ _ (xa_subI rfl rfl (fun _ _ _ _ => by omega) (xa_subI rfl rfl (fun _ _ _ _ => by omega) (xa_subI rfl rfl (fun _ _ _ _ => by omega) (xa_subI rfl rfl (fun _ _ _ _ => by omega) (xa_subR rfl xa_sub0))))) ?_
            exact loop3 402 x3 M1 (by omega) (by omega) (by omega) hc (by omega) (by omega) (by rw [show (x3 - x3).toNat = 0 by omega]; exact hw2) (by omega)
      refine hgo.1 16 [40, 62, 86, 97, 142, 237] 62 _ _ _ ?_
      refine And.intro ?_ ?_
      · intro (c1 : (M1 60 11) ≤ x2)
        show Q 237 [(3, (0, 0, 10, 400, M1 60 15)), (2, (0, 0, 10, 400, M1 60 15)), (1, (0, 0, (-2147483648), 2147483647, x1)), (0, (2, 60, 0, 0, 0))] [] M1
        refine hgo.2.1 237 _ [(3, (0, 0, 10, 401, M1 60 15)), (2, (0, 0, 10, 400, M1 60 15)), (0, (2, 60, 0, 0, 0))] _ _ (xa_subI rfl rfl (fun _ _ _ _ => by omega) (xa_subI rfl rfl (fun _ _ _ _ => by omega) (xa_subR rfl xa_sub0))) ?_
        exact loop5 402 (M1 60 15) (M1 60 15) M1 (by omega) (by omega) hc hgd (by omega) (by rw [show x2 = M 60 11 by omega] at hw; exact hw) (by rw [show (M1 60 15 - M 60 15).toNat = 0 by omega]; exact e15) (by omega)
      · intro (c1 : x2 < (M1 60 11))
        show xa_C xm_I A h0 _ 248 [(0, 0, (-2147483648), 2147483647, x1), (0, 0, 0, 8, x2)] M1 _
        refine ct_has (fun r2 zr2 er2 => ?_)
        refine And.intro ?_ ?_
        · intro (c3 : ¬ r2 = 0)
          show Q 86 [(3, (0, 0, 10, 400, M1 60 15)), (2, (0, 0, 0, 8, x2)), (1, (0, 0, (-2147483648), 2147483647, x1)), (0, (2, 60, 0, 0, 0))] [] M1
          refine hgo.2.1 86 _ [(3, (0, 0, 10, 401, M1 60 15)), (2, (0, 0, 0, 7, x2)), (1, (0, 0, (-2147483648), 2147483647, x1)), (0, (2, 60, 0, 0, 0))] _ _ (xa_subI rfl rfl (fun _ _ _ _ => by omega) (xa_subI rfl rfl (fun _ _ _ _ => by omega) (xa_subI rfl rfl (fun _ _ _ _ => by omega) (xa_subR rfl xa_sub0)))) ?_
          exact loop2 402 (M1 60 15) M1 (by omega) (by omega) hc (by omega) (by rw [← h9.1]; exact er2.mp (by omega)) (by omega) (by rw [show (M1 60 15 - M 60 15).toNat = 0 by omega]; exact hw) (by omega)
        · intro (c3 : r2 = 0)
          show Q 62 [(2, (0, 0, 1, 9, x2 + 1)), (1, (0, 0, (-2147483648), 2147483647, x1)), (0, (2, 60, 0, 0, 0))] [] M1
          refine hgo.2.1 62 _ [(2, (0, 0, 0, 8, x2 + 1)), (1, (0, 0, (-2147483648), 2147483647, x1)), (0, (2, 60, 0, 0, 0))] _ _ (xa_subI rfl rfl (fun _ _ _ _ => by omega) (xa_subI rfl rfl (fun _ _ _ _ => by omega) (xa_subR rfl xa_sub0))) ?_
          have ep : ((x2.toNat : Nat) : Int) = x2 := Int.toNat_of_nonneg (by omega)
          have en : (x2 + 1).toNat = x2.toNat + 1 := by omega
          have q1 : cm_f (cm_p (M 60 15) (M 60 16) a (M 70) (M 71)) 0 (x2 + 1).toNat (fun _ => 0) = cm_f (cm_p (M 60 15) (M 60 16) a (M 70) (M 71)) 0 x2.toNat (fun _ => 0) := by
            rw [en]
            show cm_p (M 60 15) (M 60 16) a (M 70) (M 71) (0 + ((x2.toNat : Nat) : Int)) (cm_f (cm_p (M 60 15) (M 60 16) a (M 70) (M 71)) 0 x2.toNat (fun _ => 0)) = _
            rw [Int.zero_add, ep]
            exact if_neg (by rw [← h9.1]; exact fun e => absurd (er2.mpr e) (by omega))
          exact ih1 (x2 + 1) x1 M1 (by omega) hc hgd (by omega) (fun t t0 t1 => by rw [q1]; exact hw t t0 t1) (by omega)
  have loop0 : ∀ (n : Nat) (x2 x1 : Int) (M1 : xa_M), 0 ≤ x2 ∧ x2 ≤ 401 → xm_cor M M1 → ((0 < a ∧ a < xa_ib 6 1 (M 60 11)) ∧ M 60 16 - M 60 15 ≤ 60) → x1 = a → (∀ t : Int, 0 ≤ t → t < x2 → M1 92 t = 0) → 401 - x2 < (n : Int) → Q 40 [(2, (0, 0, 0, 401, x2)), (1, (0, 0, (-2147483648), 2147483647, x1)), (0, (2, 60, 0, 0, 0))] [] M1 := by
    intro n
    induction n with
    | zero => intro x2 x1 M1 b2 hc hgd h9 hz hms; omega
    | succ n ih0 =>
      intro x2 x1 M1 b2 hc hgd h9 hz hms0
      refine hgo.1 15 [40, 62, 86, 97, 142, 237] 40 _ _ _ ?_
      refine And.intro ?_ ?_
      · intro (c1 : 400 < x2)
        show Q 62 [(2, (0, 0, 0, 0, 0)), (1, (0, 0, (-2147483648), 2147483647, x1)), (0, (2, 60, 0, 0, 0))] [] M1
        refine hgo.2.1 62 _ [(2, (0, 0, 0, 8, 0)), (1, (0, 0, (-2147483648), 2147483647, x1)), (0, (2, 60, 0, 0, 0))] _ _ (xa_subI rfl rfl (fun _ _ _ _ => by omega) (xa_subI rfl rfl (fun _ _ _ _ => by omega) (xa_subR rfl xa_sub0))) ?_
        exact loop1 9 0 x1 M1 (by omega) hc hgd ⟨h9, by omega⟩ (fun t t0 t1 => hz t (by omega) (by omega)) (by omega)
      · intro (c1 : x2 ≤ 400)
        refine And.intro (show 0 ≤ x2 ∧ x2 < 401 by omega) ?_
        show Q 40 [(2, (0, 0, 1, 402, x2 + 1)), (1, (0, 0, (-2147483648), 2147483647, x1)), (0, (2, 60, 0, 0, 0))] [] (xa_up M1 92 x2 0)
        refine hgo.2.1 40 _ [(2, (0, 0, 0, 401, x2 + 1)), (1, (0, 0, (-2147483648), 2147483647, x1)), (0, (2, 60, 0, 0, 0))] _ _ (xa_subI rfl rfl (fun _ _ _ _ => by omega) (xa_subI rfl rfl (fun _ _ _ _ => by omega) (xa_subR rfl xa_sub0))) ?_
        exact ih0 (x2 + 1) x1 (xa_up M1 92 x2 0) (by omega) (xm_cor_a rfl hc) hgd h9 (fun t t0 t1 => by
          by_cases e : t = x2
          · rw [e, xa_up_eq]
          · rw [xa_up_ne (fun g => e g.2)]
            exact hz t t0 (by omega)) (by omega)
  refine hgo.1 25 [40, 62, 86, 97, 142, 237] 0 _ _ _ ?_
  refine And.intro ?_ ?_
  · intro (c1 : a ≤ 0)
    show post (some (0, 0, (-1), (-1), (-1))) (xa_up M 60 21 0)
    exact k _ _ _ _ (by unfold cm_P; omega) (xm_cor_f (by omega) xm_cor_r)
  · intro (c1 : 0 < a)
    refine And.intro ?_ ?_
    · intro (c2 : a < (xa_ib 6 1 (M 60 11)))
      refine And.intro ?_ ?_
      · intro (c3 : ((M 60 16) - (M 60 15)) ≤ 60)
        show Q 40 [(2, (0, 0, 0, 0, 0)), (0, (2, 60, 0, 0, 0)), (1, (0, 0, (-2147483648), 2147483647, a))] [] (xa_up M 60 21 0)
        refine hgo.2.1 40 _ [(2, (0, 0, 0, 401, 0)), (1, (0, 0, (-2147483648), 2147483647, a)), (0, (2, 60, 0, 0, 0))] _ _ (xa_subI rfl rfl (fun _ _ _ _ => by omega) (xa_subI rfl rfl (fun _ _ _ _ => by omega) (xa_subR rfl xa_sub0))) ?_
        exact loop0 402 0 a (xa_up M 60 21 0) (by omega) (xm_cor_f (by omega) xm_cor_r) ⟨⟨by omega, by omega⟩, by omega⟩ rfl (fun t t0 t1 => by omega) (by omega)
      · intro (c3 : 60 < ((M 60 16) - (M 60 15)))
        show post (some (0, 0, (-4), (-4), (-4))) (xa_up M 60 21 0)
        exact k _ _ _ _ (by unfold cm_P; omega) (xm_cor_f (by omega) xm_cor_r)
    · intro (c2 : (xa_ib 6 1 (M 60 11)) ≤ a)
      show post (some (0, 0, (-1), (-1), (-1))) (xa_up M 60 21 0)
      exact k _ _ _ _ (by unfold cm_P; omega) (xm_cor_f (by omega) xm_cor_r)

