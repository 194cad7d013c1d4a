-- may of the model, told isFitting (made by wip/p24/xa/xm19.py)
set_option maxRecDepth 20000
theorem ms_may {A : Nat → Nat} {h0 : g_H} {d : Nat} {M : xa_M} {post : Option xa_V → xa_M → Prop} {l1 u1 : Int} {a : Int} (h242 : xm_fd) (hI : xm_Inv M) (k : ∀ (o : Option xa_V) (M1 : xa_M), xm_cor M M1 → post o M1) : xa_C xm_I A h0 (d + 4) 247 [(2, 60, 0, 0, 0), (0, 0, l1, u1, a)] M post := by
  refine xa_C_arg [(2, 60, 0, 0, 0), (0, 0, (-2147483648), 2147483647, a)] (xa_svR (xa_svI (fun _ _ _ _ => by omega) xa_sv0)) ?_
  refine xa_meth (Q0 := (4, 1, false, 0, 0, 12)) (by decide +kernel) ⟨rfl, rfl⟩ (full := s_c_247) rfl rfl ?_
  intro hM hv Q hgo
  have loop0 : ∀ (n : Nat) (x2 : Int) (M1 : xa_M), xm_cor M M1 → xm_W M1 0 → xm_rk M1 (M1 60 32).toNat < (n : Int) → Q 44 [(2, (0, 0, (-2147483648), 2147483647, x2)), (0, (2, 60, 0, 0, 0))] [] M1 := by
    intro n
    induction n with
    | zero => intro x2 M1 hc hW hms; exact absurd hms (by have := xm_W_rk hW; omega)
    | succ n ih0 =>
      intro x2 M1 hc hW hms0
      refine hgo.2.2 _ _ _ _ (fun hM1 _ => ?_)
      have e11 := xm_corf hc 11 (by omega)
      have b11 := xm_f11 hM1
      have b32 := xm_f32 hM1
      have hrk := (xm_rkb hW.2.1 (M1 60 32).toNat (by omega)).1
      have hWs := hW.2.2.2
      obtain ⟨e, he⟩ : ∃ e, e = xm_rk M1 (M1 60 32).toNat := ⟨_, rfl⟩
      have loop1 : ∀ (n : Nat) (x3 x2 : Int) (M1 : xa_M), 0 ≤ x3 ∧ x3 ≤ 8 → xm_cor M M1 → xm_W M1 0 → xm_rk M1 (M1 60 32).toNat = e → 8 - x3 < (n : Int) → Q 46 [(3, (0, 0, 0, 8, x3)), (2, (0, 0, (-2147483648), 2147483647, x2)), (0, (2, 60, 0, 0, 0))] [] M1 := by
        intro n
        induction n with
        | zero => intro x3 x2 M1 b3 hc hW hrke hms; omega
        | succ n ih1 =>
          intro x3 x2 M1 b3 hc hW hrke hms1
          refine hgo.2.2 _ _ _ _ (fun hM1 _ => ?_)
          have e11 := xm_corf hc 11 (by omega)
          have b11 := xm_f11 hM1
          have b32 := xm_f32 hM1
          have hrk := (xm_rkb hW.2.1 (M1 60 32).toNat (by omega)).1
          have hWs := hW.2.2.2
          refine hgo.1 25 [44, 46] 46 _ _ _ ?_
          refine And.intro ?_ ?_
          · intro (c1 : (M1 60 11) ≤ x3)
            show xa_C xm_I A h0 _ 243 [(2, 60, 0, 0, 0)] M1 _
            refine xa_C_mok (ct_nextW hW (fun v2 M2 z2 hc2 e2 wN2 rk2 hM2 => ?_))
            refine And.intro ?_ ?_
            · intro (c3 : ¬ v2 = 0)
              show Q 44 [(3, (0, 0, 0, 8, x3)), (2, (0, 0, (-2147483648), 2147483647, x2)), (0, (2, 60, 0, 0, 0))] [] M2
              refine hgo.2.1 44 _ [(2, (0, 0, (-2147483648), 2147483647, x2)), (0, (2, 60, 0, 0, 0))] _ _ (xa_subI rfl rfl (fun _ _ _ _ => by omega) (xa_subR rfl xa_sub0)) ?_
              exact ih0 x2 M2 (xm_cor_t hc hc2) (wN2 _ (by omega) (by omega)) (by omega)
            · intro (c3 : v2 = 0)
              show post (some (0, 0, (-2147483648), 2147483647, x2)) M2
              exact k _ _ (xm_cor_t hc hc2)
          · intro (c1 : x3 < (M1 60 11))
            show xa_C xm_I A h0 _ 248 [(0, 0, (-2147483648), 2147483647, x2), (0, 0, 0, 8, x3)] M1 _
            refine ct_has (fun r4 zr4 er4 => ?_)
            refine And.intro ?_ ?_
            · intro (c5 : ¬ r4 = 0)
              show Q 46 [(3, (0, 0, 1, 9, x3 + 1)), (2, (0, 0, (-2147483648), 2147483647, x2)), (0, (2, 60, 0, 0, 0))] [] M1
              refine hgo.2.1 46 _ [(3, (0, 0, 0, 8, x3 + 1)), (2, (0, 0, (-2147483648), 2147483647, x2)), (0, (2, 60, 0, 0, 0))] _ _ (xa_subI rfl rfl (fun _ _ _ _ => by omega) (xa_subI rfl rfl (fun _ _ _ _ => by omega) (xa_subR rfl xa_sub0))) ?_
              exact ih1 (x3 + 1) x2 M1 (by omega) hc hW (by omega) (by omega)
            · intro (c5 : r4 = 0)
              show xa_C xm_I A h0 _ 242 [(2, 60, 0, 0, 0), (0, 0, 0, 8, x3)] M1 _
              refine xa_C_mok (ct_isF h242 (xm_Inv_cor hc hI) hW (by omega) (by omega) (fun v6 M6 z6 hc6 e6 wF6 rk6 hM6 => ?_))
              refine And.intro ?_ ?_
              · intro (c7 : v6 = 0)
                show Q 46 [(3, (0, 0, 1, 9, x3 + 1)), (2, (0, 0, (-2147483648), 2147483647, x2)), (0, (2, 60, 0, 0, 0))] [] M6
                refine hgo.2.1 46 _ [(3, (0, 0, 0, 8, x3 + 1)), (2, (0, 0, (-2147483648), 2147483647, x2)), (0, (2, 60, 0, 0, 0))] _ _ (xa_subI rfl rfl (fun _ _ _ _ => by omega) (xa_subI rfl rfl (fun _ _ _ _ => by omega) (xa_subR rfl xa_sub0))) ?_
                exact ih1 (x3 + 1) x2 M6 (by omega) (xm_cor_t hc hc6) wF6 (rk6.trans hrke) (by omega)
              · intro (c7 : ¬ v6 = 0)
                show Q 46 [(3, (0, 0, 1, 9, x3 + 1)), (2, (0, 0, (-2147483648), 2147483647, xa_ib 4 x2 (xa_ib 6 1 x3))), (0, (2, 60, 0, 0, 0))] [] M6
                refine hgo.2.1 46 _ [(3, (0, 0, 0, 8, x3 + 1)), (2, (0, 0, (-2147483648), 2147483647, xa_ib 4 x2 (xa_ib 6 1 x3))), (0, (2, 60, 0, 0, 0))] _ _ (xa_subI rfl rfl (fun _ _ _ _ => by omega) (xa_subI rfl rfl (fun _ _ _ _ => by omega) (xa_subR rfl xa_sub0))) ?_
                exact ih1 (x3 + 1) (xa_ib 4 x2 (xa_ib 6 1 x3)) M6 (by omega) (xm_cor_t hc hc6) wF6 (rk6.trans hrke) (by omega)
      refine hgo.1 7 [44, 46] 44 _ _ _ ?_
      show Q 46 [(3, (0, 0, 0, 0, 0)), (2, (0, 0, (-2147483648), 2147483647, x2)), (0, (2, 60, 0, 0, 0))] [] M1
      refine hgo.2.1 46 _ [(3, (0, 0, 0, 8, 0)), (2, (0, 0, (-2147483648), 2147483647, x2)), (0, (2, 60, 0, 0, 0))] _ _ (xa_subI rfl rfl (fun _ _ _ _ => by omega) (xa_subI rfl rfl (fun _ _ _ _ => by omega) (xa_subR rfl xa_sub0))) ?_
      exact loop1 9 0 x2 M1 (by omega) hc hW (by omega) (by omega)
  refine hgo.1 24 [44, 46] 0 _ _ _ ?_
  show xa_C xm_I A h0 _ 214 [(0, 0, (-2147483648), 2147483647, a), (0, 0, 1, 1, 1), (0, 0, 9, 9, 9)] (xa_up M 60 21 0) _
  refine ct_in ?_ ?_
  · intro (i1 : 1 ≤ a ∧ a ≤ 9)
    show xa_C xm_I A h0 _ 236 [(2, 60, 0, 0, 0), (0, 0, (-2147483648), 2147483647, a)] (xa_up M 60 21 0) _
    refine xa_C_mok (ct_findWay (xm_Inv_cor (xm_cor_f (by omega) xm_cor_r) hI) (by omega) (by omega) (fun v2 M2 hv2 hc2 hw2 hM2 => ?_))
    refine And.intro ?_ ?_
    · intro (c3 : ¬ v2 = 0)
      show xa_C xm_I A h0 _ 240 [(2, 60, 0, 0, 0)] M2 _
      refine ct_areTooMany (xm_Inv_cor (xm_cor_t (xm_cor_f (by omega) xm_cor_r) hc2) hI) (hw2 (by omega)) (fun r4 zr4 yr4 => ?_)
      refine And.intro ?_ ?_
      · intro (c5 : r4 = 0)
        show xa_C xm_I A h0 _ 241 [(2, 60, 0, 0, 0)] M2 _
        refine xa_C_mok (ct_firstW (xm_Inv_cor (xm_cor_t (xm_cor_f (by omega) xm_cor_r) hc2) hI) ⟨hw2 (by omega), yr4 (by omega)⟩ (fun M6 hc6 e6 wA6 hM6 => ?_))
        have w2 := wA6.2.2.2
        show Q 44 [(2, (0, 0, 0, 0, 0)), (0, (2, 60, 0, 0, 0)), (1, (0, 0, (-2147483648), 2147483647, a))] [] M6
        refine hgo.2.1 44 _ [(2, (0, 0, (-2147483648), 2147483647, 0)), (0, (2, 60, 0, 0, 0))] _ _ (xa_subI rfl rfl (fun _ _ _ _ => by omega) (xa_subR rfl xa_sub0)) ?_
        exact loop0 200000 0 M6 (xm_cor_t (xm_cor_t (xm_cor_f (by omega) xm_cor_r) hc2) hc6) wA6 (by omega)
      · intro (c5 : ¬ r4 = 0)
        show post (some (0, 0, (-4), (-4), (-4))) M2
        exact k _ _ (xm_cor_t (xm_cor_f (by omega) xm_cor_r) hc2)
    · intro (c3 : v2 = 0)
      show post (some (0, 0, (-2), (-2), (-2))) M2
      exact k _ _ (xm_cor_t (xm_cor_f (by omega) xm_cor_r) hc2)
  · intro (i1 : ¬ (1 ≤ a ∧ a ≤ 9))
    show post (some (0, 0, (-1), (-1), (-1))) (xa_up M 60 21 0)
    exact k _ _ (xm_cor_f (by omega) xm_cor_r)
theorem ms_next {A : Nat → Nat} {h0 : g_H} {d : Nat} {M : xa_M} {post : Option xa_V → xa_M → Prop} {l1 u1 l2 u2 : Int} {a x2 : Int} (h242 : xm_fd) (hI : xm_Inv M) (k : ∀ (o : Option xa_V) (M1 : xa_M), xm_cor M M1 → post o M1) : xa_C xm_I A h0 (d + 5) 249 [(2, 60, 0, 0, 0), (0, 0, l1, u1, a), (0, 0, l2, u2, x2)] M post := by
  refine xa_C_arg [(2, 60, 0, 0, 0), (0, 0, (-2147483648), 2147483647, a), (0, 0, (-2147483648), 2147483647, x2)] (xa_svR (xa_svI (fun _ _ _ _ => by omega) (xa_svI (fun _ _ _ _ => by omega) xa_sv0))) ?_
  refine xa_meth (Q0 := (9, 1, false, 0, 0, 12)) (by decide +kernel) ⟨rfl, rfl⟩ (full := s_c_249) rfl rfl ?_
  intro hM hv Q hgo
  have loop0 : ∀ (n : Nat) (x6 x5 x4 : Int) (M1 : xa_M), 0 ≤ x6 ∧ x6 ≤ 14 → (-1) ≤ x4 ∧ x4 ≤ 13 → xm_cor M M1 → 14 - x6 < (n : Int) → Q 42 [(6, (0, 0, 0, 14, x6)), (5, (0, 0, (-2147483648), 2147483647, x5)), (4, (0, 0, (-1), 13, x4)), (0, (2, 60, 0, 0, 0))] [] M1 := by
    intro n
    induction n with
    | zero => intro x6 x5 x4 M1 b6 b4 hc hms; omega
    | succ n ih0 =>
      intro x6 x5 x4 M1 b6 b4 hc hms0
      refine hgo.2.2 _ _ _ _ (fun hM1 _ => ?_)
      have b32 := xm_f32 hM1
      have t80 : x6 < 14 → 0 ≤ M1 80 x6 ∧ M1 80 x6 ≤ 13 := fun h => xm_t80 hM1 x6 (by omega) h
      obtain ⟨n0, hn0⟩ : ∃ n0, n0 = n := ⟨_, rfl⟩
      have loop1 : ∀ (n : Nat) (x8 x7 x6 x5 x4 : Int) (M1 : xa_M), 0 ≤ x8 ∧ x8 ≤ 401 → 0 ≤ x6 ∧ x6 ≤ 13 → (-1) ≤ x4 ∧ x4 ≤ 13 → xm_cor M M1 → 13 - x6 < (n0 : Int) → 401 - x8 < (n : Int) → Q 57 [(8, (0, 0, 0, 401, x8)), (7, (0, 0, (-2147483648), 2147483647, x7)), (6, (0, 0, 0, 13, x6)), (5, (0, 0, (-2147483648), 2147483647, x5)), (4, (0, 0, (-1), 13, x4)), (0, (2, 60, 0, 0, 0))] [] M1 := by
        intro n
        induction n with
        | zero => intro x8 x7 x6 x5 x4 M1 b8 b6 b4 hc hn6 hms; omega
        | succ n ih1 =>
          intro x8 x7 x6 x5 x4 M1 b8 b6 b4 hc hn6 hms1
          refine hgo.2.2 _ _ _ _ (fun hM1 _ => ?_)
          have t80 := xm_t80 hM1 x6 (by omega) (by omega)
          refine hgo.1 23 [42, 57] 57 _ _ _ ?_
          refine And.intro ?_ ?_
          · intro (c1 : 400 < x8)
            refine And.intro ?_ ?_
            · intro (c2 : x4 = (-1))
              show Q 42 [(6, (0, 0, 1, 14, x6 + 1)), (5, (0, 0, (-2147483648), 2147483647, x7)), (4, (0, 0, 0, 13, M1 80 x6)), (8, (0, 0, 0, 401, x8)), (7, (0, 0, (-2147483648), 2147483647, x7)), (0, (2, 60, 0, 0, 0))] [] M1
              refine hgo.2.1 42 _ [(6, (0, 0, 0, 14, x6 + 1)), (5, (0, 0, (-2147483648), 2147483647, x7)), (4, (0, 0, (-1), 13, M1 80 x6)), (0, (2, 60, 0, 0, 0))] _ _ (xa_subI rfl rfl (fun _ _ _ _ => by omega) (xa_subI rfl rfl (fun _ _ _ _ => by omega) (xa_subI rfl rfl (fun _ _ _ _ => by omega) (xa_subR rfl xa_sub0)))) ?_
              exact ih0 (x6 + 1) x7 (M1 80 x6) M1 (by omega) (by omega) hc (by omega)
            · intro (c2 : ¬ x4 = (-1))
              refine And.intro ?_ ?_
              · intro (c3 : x7 < x5)
                show Q 42 [(6, (0, 0, 1, 14, x6 + 1)), (5, (0, 0, (-2147483648), 2147483647, x7)), (4, (0, 0, 0, 13, M1 80 x6)), (8, (0, 0, 0, 401, x8)), (7, (0, 0, (-2147483648), 2147483647, x7)), (0, (2, 60, 0, 0, 0))] [] M1
                refine hgo.2.1 42 _ [(6, (0, 0, 0, 14, x6 + 1)), (5, (0, 0, (-2147483648), 2147483647, x7)), (4, (0, 0, (-1), 13, M1 80 x6)), (0, (2, 60, 0, 0, 0))] _ _ (xa_subI rfl rfl (fun _ _ _ _ => by omega) (xa_subI rfl rfl (fun _ _ _ _ => by omega) (xa_subI rfl rfl (fun _ _ _ _ => by omega) (xa_subR rfl xa_sub0)))) ?_
                exact ih0 (x6 + 1) x7 (M1 80 x6) M1 (by omega) (by omega) hc (by omega)
              · intro (c3 : x5 ≤ x7)
                show Q 42 [(6, (0, 0, 1, 14, x6 + 1)), (8, (0, 0, 0, 401, x8)), (7, (0, 0, (-2147483648), 2147483647, x7)), (5, (0, 0, (-2147483648), 2147483647, x5)), (4, (0, 0, (-1), 13, x4)), (0, (2, 60, 0, 0, 0))] [] M1
                refine hgo.2.1 42 _ [(6, (0, 0, 0, 14, x6 + 1)), (5, (0, 0, (-2147483648), 2147483647, x5)), (4, (0, 0, (-1), 13, x4)), (0, (2, 60, 0, 0, 0))] _ _ (xa_subI rfl rfl (fun _ _ _ _ => by omega) (xa_subI rfl rfl (fun _ _ _ _ => by omega) (xa_subI rfl rfl (fun _ _ _ _ => by omega) (xa_subR rfl xa_sub0)))) ?_
                exact ih0 (x6 + 1) x5 x4 M1 (by omega) (by omega) hc (by omega)
          · intro (c1 : x8 ≤ 400)
            refine And.intro (show 0 ≤ ((401 * x6) + x8) ∧ ((401 * x6) + x8) < 5614 by omega) ?_
            show xa_C xm_I A h0 _ 35 [(0, 0, (-2147483648), 2147483647, x7), (0, 0, (-2147483648), 2147483647, M1 87 ((401 * x6) + x8))] M1 _
            refine ct_max (-2147483648) 2147483647 (by decide) (by decide) (by decide) (fun r4 br4 er4 => ?_)
            show Q 57 [(8, (0, 0, 1, 402, x8 + 1)), (7, (0, 0, (-2147483648), 2147483647, r4)), (6, (0, 0, 0, 13, x6)), (5, (0, 0, (-2147483648), 2147483647, x5)), (4, (0, 0, (-1), 13, x4)), (0, (2, 60, 0, 0, 0))] [] M1
            refine hgo.2.1 57 _ [(8, (0, 0, 0, 401, x8 + 1)), (7, (0, 0, (-2147483648), 2147483647, r4)), (6, (0, 0, 0, 13, x6)), (5, (0, 0, (-2147483648), 2147483647, x5)), (4, (0, 0, (-1), 13, x4)), (0, (2, 60, 0, 0, 0))] _ _ (xa_subI rfl rfl (fun _ _ _ _ => by omega) (xa_subI rfl rfl (fun _ _ _ _ => by omega) (xa_subI rfl rfl (fun _ _ _ _ => by omega) (xa_subI rfl rfl (fun _ _ _ _ => by omega) (xa_subI rfl rfl (fun _ _ _ _ => by omega) (xa_subR rfl xa_sub0)))))) ?_
            exact ih1 (x8 + 1) r4 x6 x5 x4 M1 (by omega) (by omega) (by omega) hc (by omega) (by omega)
      refine hgo.1 17 [42, 57] 42 _ _ _ ?_
      refine And.intro ?_ ?_
      · intro (c1 : (M1 60 32) ≤ x6)
        show xa_C xm_I A h0 _ 231 [(2, 60, 0, 0, 0), (1, 0, (-2147483648), 2147483647, x5)] (xa_up M1 60 20 0) _
        refine ct_tell (n := 0) (by first | rfl | (simp [xa_up]; done) | omega) (by omega) (by omega) ?_
        show post (some (0, 0, (-1), 13, x4)) (xa_up (xa_up (xa_up M1 60 20 0) 74 0 x5) 60 20 1)
        exact k _ _ (xm_cor_f (by omega) (xm_cor_a rfl (xm_cor_f (by omega) hc)))
      · intro (c1 : x6 < (M1 60 32))
        show Q 57 [(8, (0, 0, 0, 0, 0)), (7, (0, 0, 0, 0, 0)), (6, (0, 0, 0, 14, x6)), (5, (0, 0, (-2147483648), 2147483647, x5)), (4, (0, 0, (-1), 13, x4)), (0, (2, 60, 0, 0, 0))] [] M1
        refine hgo.2.1 57 _ [(8, (0, 0, 0, 401, 0)), (7, (0, 0, (-2147483648), 2147483647, 0)), (6, (0, 0, 0, 13, x6)), (5, (0, 0, (-2147483648), 2147483647, x5)), (4, (0, 0, (-1), 13, x4)), (0, (2, 60, 0, 0, 0))] _ _ (xa_subI rfl rfl (fun _ _ _ _ => by omega) (xa_subI rfl rfl (fun _ _ _ _ => by omega) (xa_subI rfl rfl (fun _ _ _ _ => by omega) (xa_subI rfl rfl (fun _ _ _ _ => by omega) (xa_subI rfl rfl (fun _ _ _ _ => by omega) (xa_subR rfl xa_sub0)))))) ?_
        exact loop1 402 0 0 x6 x5 x4 M1 (by omega) (by omega) (by omega) hc (by omega) (by omega)
  refine hgo.1 27 [42, 57] 0 _ _ _ ?_
  show xa_C xm_I A h0 _ 238 [(2, 60, 0, 0, 0), (0, 0, (-2147483648), 2147483647, a), (0, 0, (-2147483648), 2147483647, x2)] (xa_up M 60 21 0) _
  refine xa_C_mok (ct_ready (xm_Inv_cor (xm_cor_f (by omega) xm_cor_r) hI) (fun v1 M1 z1 hc1 hr1 hM1 => ?_))
  refine And.intro ?_ ?_
  · intro (c2 : 0 ≤ v1)
    show xa_C xm_I A h0 _ 246 [(2, 60, 0, 0, 0), (0, 0, (-2147483648), 2147483647, x2)] M1 _
    refine xa_C_mok (ct_countFits h242 (xm_Inv_cor (xm_cor_t (xm_cor_f (by omega) xm_cor_r) hc1) hI) ⟨(hr1 (by omega)).1, (hr1 (by omega)).2.1⟩ (by have q := (hr1 (by omega)).2.2; have e := xm_corf (xm_cor_t (xm_cor_f (by omega) xm_cor_r) hc1) 11 (by omega); simp [xa_up] at q; omega) (by have q := (hr1 (by omega)).2.2; have e := xm_corf (xm_cor_t (xm_cor_f (by omega) xm_cor_r) hc1) 11 (by omega); simp [xa_up] at q; omega) (fun M3 hc3 hM3 => ?_))
    refine And.intro ?_ ?_
    · intro (c4 : ¬ (M3 60 39) = 0)
      show Q 42 [(6, (0, 0, 0, 0, 0)), (5, (0, 0, 0, 0, 0)), (4, (0, 0, (-1), (-1), (-1))), (3, (0, 0, (-4), 0, v1)), (0, (2, 60, 0, 0, 0)), (1, (0, 0, (-2147483648), 2147483647, a)), (2, (0, 0, (-2147483648), 2147483647, x2))] [] M3
      refine hgo.2.1 42 _ [(6, (0, 0, 0, 14, 0)), (5, (0, 0, (-2147483648), 2147483647, 0)), (4, (0, 0, (-1), 13, (-1))), (0, (2, 60, 0, 0, 0))] _ _ (xa_subI rfl rfl (fun _ _ _ _ => by omega) (xa_subI rfl rfl (fun _ _ _ _ => by omega) (xa_subI rfl rfl (fun _ _ _ _ => by omega) (xa_subR rfl xa_sub0)))) ?_
      exact loop0 15 0 0 (-1) M3 (by omega) (by omega) (xm_cor_t (xm_cor_t (xm_cor_f (by omega) xm_cor_r) hc1) hc3) (by omega)
    · intro (c4 : (M3 60 39) = 0)
      show post (some (0, 0, (-2), (-2), (-2))) M3
      exact k _ _ (xm_cor_t (xm_cor_t (xm_cor_f (by omega) xm_cor_r) hc1) hc3)
  · intro (c2 : v1 < 0)
    show post (some (0, 0, (-4), 0, v1)) M1
    exact k _ _ (xm_cor_t (xm_cor_f (by omega) xm_cor_r) hc1)
theorem ms_sure {A : Nat → Nat} {h0 : g_H} {d : Nat} {M : xa_M} {post : Option xa_V → xa_M → Prop} {l1 u1 l2 u2 l3 u3 : Int} {a x2 x3 : Int} (h242 : xm_fd) (hI : xm_Inv M) (k : ∀ (o : Option xa_V) (M1 : xa_M), xm_cor M M1 → post o M1) : xa_C xm_I A h0 (d + 5) 245 [(2, 60, 0, 0, 0), (0, 0, l1, u1, a), (0, 0, l2, u2, x2), (0, 0, l3, u3, x3)] M post := by
  refine xa_C_arg [(2, 60, 0, 0, 0), (0, 0, (-2147483648), 2147483647, a), (0, 0, (-2147483648), 2147483647, x2), (0, 0, (-2147483648), 2147483647, x3)] (xa_svR (xa_svI (fun _ _ _ _ => by omega) (xa_svI (fun _ _ _ _ => by omega) (xa_svI (fun _ _ _ _ => by omega) xa_sv0)))) ?_
  refine xa_meth (Q0 := (10, 1, false, 0, 0, 12)) (by decide +kernel) ⟨rfl, rfl⟩ (full := s_c_245) rfl rfl ?_
  intro hM hv Q hgo
  have loop1 : ∀ (n : Nat) (x9 x8 x7 x6 x5 : Int) (M1 : xa_M), 0 ≤ x9 ∧ x9 ≤ 401 → 0 ≤ x5 ∧ x5 ≤ 13 → xm_cor M M1 → 401 - x9 < (n : Int) → Q 113 [(9, (0, 0, 0, 401, x9)), (8, (0, 0, (-2147483648), 2147483647, x8)), (7, (0, 0, (-2147483648), 2147483647, x7)), (6, (0, 0, (-2147483648), 2147483647, x6)), (5, (0, 0, 0, 13, x5)), (0, (2, 60, 0, 0, 0))] [] M1 := by
    intro n
    induction n with
    | zero => intro x9 x8 x7 x6 x5 M1 b9 b5 hc hms; omega
    | succ n ih1 =>
      intro x9 x8 x7 x6 x5 M1 b9 b5 hc hms1
      refine hgo.1 28 [35, 113] 113 _ _ _ ?_
      refine And.intro ?_ ?_
      · intro (c1 : 400 < x9)
        show xa_C xm_I A h0 _ 231 [(2, 60, 0, 0, 0), (1, 0, (-2147483648), 2147483647, x6)] (xa_up M1 60 20 0) _
        refine ct_tell (n := 0) (by first | rfl | (simp [xa_up]; done) | omega) (by omega) (by omega) ?_
        show xa_C xm_I A h0 _ 231 [(2, 60, 0, 0, 0), (1, 0, (-2147483648), 2147483647, x7)] (xa_up (xa_up (xa_up M1 60 20 0) 74 0 x6) 60 20 1) _
        refine ct_tell (n := 1) (by first | rfl | (simp [xa_up]; done) | omega) (by omega) (by omega) ?_
        show xa_C xm_I A h0 _ 231 [(2, 60, 0, 0, 0), (1, 0, (-2147483648), 2147483647, x8)] (xa_up (xa_up (xa_up (xa_up (xa_up M1 60 20 0) 74 0 x6) 60 20 1) 74 1 x7) 60 20 2) _
        refine ct_tell (n := 2) (by first | rfl | (simp [xa_up]; done) | omega) (by omega) (by omega) ?_
        show post (some (0, 0, 0, 0, 0)) (xa_up (xa_up (xa_up (xa_up (xa_up (xa_up (xa_up M1 60 20 0) 74 0 x6) 60 20 1) 74 1 x7) 60 20 2) 74 2 x8) 60 20 3)
        exact k _ _ (xm_cor_f (by omega) (xm_cor_a rfl (xm_cor_f (by omega) (xm_cor_a rfl (xm_cor_f (by omega) (xm_cor_a rfl (xm_cor_f (by omega) hc)))))))
      · intro (c1 : x9 ≤ 400)
        refine And.intro (show 0 ≤ ((401 * x5) + x9) ∧ ((401 * x5) + x9) < 5614 by omega) ?_
        refine And.intro ?_ ?_
        · intro (c2 : ¬ (M1 87 ((401 * x5) + x9)) = 0)
          refine And.intro ?_ ?_
          · intro (c3 : ¬ x6 = (-1))
            show Q 113 [(9, (0, 0, 1, 402, x9 + 1)), (8, (0, 0, (-2147483648), 2147483647, xa_w32 (x8 + 1))), (7, (0, 0, 0, 401, x9)), (6, (0, 0, (-2147483648), 2147483647, x6)), (5, (0, 0, 0, 13, x5)), (0, (2, 60, 0, 0, 0))] [] M1
            refine hgo.2.1 113 _ [(9, (0, 0, 0, 401, x9 + 1)), (8, (0, 0, (-2147483648), 2147483647, xa_w32 (x8 + 1))), (7, (0, 0, (-2147483648), 2147483647, x9)), (6, (0, 0, (-2147483648), 2147483647, x6)), (5, (0, 0, 0, 13, x5)), (0, (2, 60, 0, 0, 0))] _ _ (xa_subI rfl rfl (fun _ _ _ _ => by omega) (xa_subI rfl rfl (fun _ _ _ _ => by omega) (xa_subI rfl rfl (fun _ _ _ _ => by omega) (xa_subI rfl rfl (fun _ _ _ _ => by omega) (xa_subI rfl rfl (fun _ _ _ _ => by omega) (xa_subR rfl xa_sub0)))))) ?_
            exact ih1 (x9 + 1) (xa_w32 (x8 + 1)) x9 x6 x5 M1 (by omega) (by omega) hc (by omega)
          · intro (c3 : x6 = (-1))
            show Q 113 [(9, (0, 0, 1, 402, x9 + 1)), (8, (0, 0, (-2147483648), 2147483647, xa_w32 (x8 + 1))), (7, (0, 0, 0, 401, x9)), (6, (0, 0, 0, 401, x9)), (5, (0, 0, 0, 13, x5)), (0, (2, 60, 0, 0, 0))] [] M1
            refine hgo.2.1 113 _ [(9, (0, 0, 0, 401, x9 + 1)), (8, (0, 0, (-2147483648), 2147483647, xa_w32 (x8 + 1))), (7, (0, 0, (-2147483648), 2147483647, x9)), (6, (0, 0, (-2147483648), 2147483647, x9)), (5, (0, 0, 0, 13, x5)), (0, (2, 60, 0, 0, 0))] _ _ (xa_subI rfl rfl (fun _ _ _ _ => by omega) (xa_subI rfl rfl (fun _ _ _ _ => by omega) (xa_subI rfl rfl (fun _ _ _ _ => by omega) (xa_subI rfl rfl (fun _ _ _ _ => by omega) (xa_subI rfl rfl (fun _ _ _ _ => by omega) (xa_subR rfl xa_sub0)))))) ?_
            exact ih1 (x9 + 1) (xa_w32 (x8 + 1)) x9 x9 x5 M1 (by omega) (by omega) hc (by omega)
        · intro (c2 : (M1 87 ((401 * x5) + x9)) = 0)
          show Q 113 [(9, (0, 0, 1, 402, x9 + 1)), (8, (0, 0, (-2147483648), 2147483647, x8)), (7, (0, 0, (-2147483648), 2147483647, x7)), (6, (0, 0, (-2147483648), 2147483647, x6)), (5, (0, 0, 0, 13, x5)), (0, (2, 60, 0, 0, 0))] [] M1
          refine hgo.2.1 113 _ [(9, (0, 0, 0, 401, x9 + 1)), (8, (0, 0, (-2147483648), 2147483647, x8)), (7, (0, 0, (-2147483648), 2147483647, x7)), (6, (0, 0, (-2147483648), 2147483647, x6)), (5, (0, 0, 0, 13, x5)), (0, (2, 60, 0, 0, 0))] _ _ (xa_subI rfl rfl (fun _ _ _ _ => by omega) (xa_subI rfl rfl (fun _ _ _ _ => by omega) (xa_subI rfl rfl (fun _ _ _ _ => by omega) (xa_subI rfl rfl (fun _ _ _ _ => by omega) (xa_subI rfl rfl (fun _ _ _ _ => by omega) (xa_subR rfl xa_sub0)))))) ?_
          exact ih1 (x9 + 1) x8 x7 x6 x5 M1 (by omega) (by omega) hc (by omega)
  have loop0 : ∀ (n : Nat) (x6 x5 x4 : Int) (M1 : xa_M), 0 ≤ x6 ∧ x6 ≤ 14 → (-1) ≤ x5 ∧ x5 ≤ 13 → (-4) ≤ x4 ∧ x4 ≤ 0 → xm_cor M M1 → (x4 = 0 → xm_Y M1 ∧ 0 ≤ x2 ∧ x2 < M1 60 11) → 14 - x6 < (n : Int) → Q 35 [(6, (0, 0, 0, 14, x6)), (5, (0, 0, (-1), 13, x5)), (4, (0, 0, (-4), 0, x4)), (3, (0, 0, (-2147483648), 2147483647, x3)), (2, (0, 0, (-2147483648), 2147483647, x2)), (0, (2, 60, 0, 0, 0))] [] M1 := by
    intro n
    induction n with
    | zero => intro x6 x5 x4 M1 b6 b5 b4 hc hv0 hms; omega
    | succ n ih0 =>
      intro x6 x5 x4 M1 b6 b5 b4 hc hv0 hms0
      refine hgo.2.2 _ _ _ _ (fun hM1 _ => ?_)
      have b32 := xm_f32 hM1
      refine hgo.1 28 [35, 113] 35 _ _ _ ?_
      refine And.intro ?_ ?_
      · intro (c1 : (M1 60 32) ≤ x6)
        refine And.intro ?_ ?_
        · intro (c2 : ¬ x5 = (-1))
          refine And.intro ?_ ?_
          · intro (c3 : 0 ≤ x4)
            show xa_C xm_I A h0 _ 246 [(2, 60, 0, 0, 0), (0, 0, (-2147483648), 2147483647, x2)] M1 _
            refine xa_C_mok (ct_countFits h242 (xm_Inv_cor hc hI) (hv0 (by omega)).1 (by have q := (hv0 (by omega)).2; omega) (by have q := (hv0 (by omega)).2; omega) (fun M4 hc4 hM4 => ?_))
            refine And.intro ?_ ?_
            · intro (c5 : ¬ (M4 60 39) = 0)
              show Q 113 [(9, (0, 0, 0, 0, 0)), (8, (0, 0, 0, 0, 0)), (7, (0, 0, (-1), (-1), (-1))), (6, (0, 0, (-1), (-1), (-1))), (5, (0, 0, (-1), 13, x5)), (4, (0, 0, (-4), 0, x4)), (3, (0, 0, (-2147483648), 2147483647, x3)), (2, (0, 0, (-2147483648), 2147483647, x2)), (0, (2, 60, 0, 0, 0))] [] M4
              refine hgo.2.1 113 _ [(9, (0, 0, 0, 401, 0)), (8, (0, 0, (-2147483648), 2147483647, 0)), (7, (0, 0, (-2147483648), 2147483647, (-1))), (6, (0, 0, (-2147483648), 2147483647, (-1))), (5, (0, 0, 0, 13, x5)), (0, (2, 60, 0, 0, 0))] _ _ (xa_subI rfl rfl (fun _ _ _ _ => by omega) (xa_subI rfl rfl (fun _ _ _ _ => by omega) (xa_subI rfl rfl (fun _ _ _ _ => by omega) (xa_subI rfl rfl (fun _ _ _ _ => by omega) (xa_subI rfl rfl (fun _ _ _ _ => by omega) (xa_subR rfl xa_sub0)))))) ?_
              exact loop1 402 0 0 (-1) (-1) x5 M4 (by omega) (by omega) (xm_cor_t hc hc4) (by omega)
            · intro (c5 : (M4 60 39) = 0)
              show post (some (0, 0, (-2), (-2), (-2))) M4
              exact k _ _ (xm_cor_t hc hc4)
          · intro (c3 : x4 < 0)
            show post (some (0, 0, (-4), 0, x4)) M1
            exact k _ _ hc
        · intro (c2 : x5 = (-1))
          show post (some (0, 0, (-1), (-1), (-1))) M1
          exact k _ _ hc
      · intro (c1 : x6 < (M1 60 32))
        refine And.intro (show 0 ≤ x6 ∧ x6 < 14 by omega) ?_
        refine And.intro ?_ ?_
        · intro (c6 : ¬ (M1 80 x6) = x3)
          show Q 35 [(6, (0, 0, 1, 15, x6 + 1)), (5, (0, 0, (-1), 13, x5)), (4, (0, 0, (-4), 0, x4)), (3, (0, 0, (-2147483648), 2147483647, x3)), (2, (0, 0, (-2147483648), 2147483647, x2)), (0, (2, 60, 0, 0, 0))] [] M1
          refine hgo.2.1 35 _ [(6, (0, 0, 0, 14, x6 + 1)), (5, (0, 0, (-1), 13, x5)), (4, (0, 0, (-4), 0, x4)), (3, (0, 0, (-2147483648), 2147483647, x3)), (2, (0, 0, (-2147483648), 2147483647, x2)), (0, (2, 60, 0, 0, 0))] _ _ (xa_subI rfl rfl (fun _ _ _ _ => by omega) (xa_subI rfl rfl (fun _ _ _ _ => by omega) (xa_subI rfl rfl (fun _ _ _ _ => by omega) (xa_subI rfl rfl (fun _ _ _ _ => by omega) (xa_subI rfl rfl (fun _ _ _ _ => by omega) (xa_subR rfl xa_sub0)))))) ?_
          exact ih0 (x6 + 1) x5 x4 M1 (by omega) (by omega) (by omega) hc hv0 (by omega)
        · intro (c6 : (M1 80 x6) = x3)
          show Q 35 [(6, (0, 0, 1, 15, x6 + 1)), (5, (0, 0, 0, 14, x6)), (4, (0, 0, (-4), 0, x4)), (3, (0, 0, (-2147483648), 2147483647, x3)), (2, (0, 0, (-2147483648), 2147483647, x2)), (0, (2, 60, 0, 0, 0))] [] M1
          refine hgo.2.1 35 _ [(6, (0, 0, 0, 14, x6 + 1)), (5, (0, 0, (-1), 13, x6)), (4, (0, 0, (-4), 0, x4)), (3, (0, 0, (-2147483648), 2147483647, x3)), (2, (0, 0, (-2147483648), 2147483647, x2)), (0, (2, 60, 0, 0, 0))] _ _ (xa_subI rfl rfl (fun _ _ _ _ => by omega) (xa_subI rfl rfl (fun _ _ _ _ => by omega) (xa_subI rfl rfl (fun _ _ _ _ => by omega) (xa_subI rfl rfl (fun _ _ _ _ => by omega) (xa_subI rfl rfl (fun _ _ _ _ => by omega) (xa_subR rfl xa_sub0)))))) ?_
          exact ih0 (x6 + 1) x6 x4 M1 (by omega) (by omega) (by omega) hc hv0 (by omega)
  refine hgo.1 23 [35, 113] 0 _ _ _ ?_
  show xa_C xm_I A h0 _ 238 [(2, 60, 0, 0, 0), (0, 0, (-2147483648), 2147483647, a), (0, 0, (-2147483648), 2147483647, x2)] (xa_up M 60 21 0) _
  refine xa_C_mok (ct_ready (xm_Inv_cor (xm_cor_f (by omega) xm_cor_r) hI) (fun v1 M1 z1 hc1 hr1 hM1 => ?_))
  refine And.intro ?_ ?_
  · intro (c2 : v1 = (-1))
    show post (some (0, 0, (-4), 0, v1)) M1
    exact k _ _ (xm_cor_t (xm_cor_f (by omega) xm_cor_r) hc1)
  · intro (c2 : ¬ v1 = (-1))
    refine And.intro ?_ ?_
    · intro (c3 : ¬ v1 = (-2))
      show Q 35 [(6, (0, 0, 0, 0, 0)), (5, (0, 0, (-1), (-1), (-1))), (4, (0, 0, (-4), 0, v1)), (0, (2, 60, 0, 0, 0)), (1, (0, 0, (-2147483648), 2147483647, a)), (2, (0, 0, (-2147483648), 2147483647, x2)), (3, (0, 0, (-2147483648), 2147483647, x3))] [] M1
      refine hgo.2.1 35 _ [(6, (0, 0, 0, 14, 0)), (5, (0, 0, (-1), 13, (-1))), (4, (0, 0, (-4), 0, v1)), (3, (0, 0, (-2147483648), 2147483647, x3)), (2, (0, 0, (-2147483648), 2147483647, x2)), (0, (2, 60, 0, 0, 0))] _ _ (xa_subI rfl rfl (fun _ _ _ _ => by omega) (xa_subI rfl rfl (fun _ _ _ _ => by omega) (xa_subI rfl rfl (fun _ _ _ _ => by omega) (xa_subI rfl rfl (fun _ _ _ _ => by omega) (xa_subI rfl rfl (fun _ _ _ _ => by omega) (xa_subR rfl xa_sub0)))))) ?_
      exact loop0 15 0 (-1) v1 M1 (by omega) (by omega) (by omega) (xm_cor_t (xm_cor_f (by omega) xm_cor_r) hc1) (fun h => ⟨⟨(hr1 h).1, (hr1 h).2.1⟩, by have q := (hr1 h).2.2; have e := xm_corf (xm_cor_t (xm_cor_f (by omega) xm_cor_r) hc1) 11 (by omega); simp [xa_up] at q; omega⟩) (by omega)
    · intro (c3 : v1 = (-2))
      show post (some (0, 0, (-4), 0, v1)) M1
      exact k _ _ (xm_cor_t (xm_cor_f (by omega) xm_cor_r) hc1)
