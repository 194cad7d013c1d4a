-- what rests on findTurns (made by wip/p24/xa/xm4.py)
set_option maxRecDepth 20000
theorem xa_w32_id {n : Int} (h1 : -2147483648 ≤ n) (h2 : n ≤ 2147483647) : xa_w32 n = n := by
  unfold xa_w32
  apply Int.bmod_eq_of_le <;> omega
theorem xa_w64_id {n : Int} (h1 : -9223372036854775808 ≤ n) (h2 : n ≤ 9223372036854775807) : xa_w64 n = n := by
  unfold xa_w64
  apply Int.bmod_eq_of_le <;> omega
theorem xm_mulc {p q : Int} (h1 : 0 ≤ p) (h2 : p ≤ 1000000000) (h3 : 0 ≤ q) (h4 : q ≤ 2000) : 0 ≤ p * q ∧ p * q ≤ 2000000000000 := xa_mul_ok h1 h2 h3 h4
theorem ct_stateOf {A : Nat → Nat} {h0 : g_H} {d : Nat} {M : xa_M} {post : Option xa_V → xa_M → Prop} {l1 u1 : Int} {a : Int} (hI : xm_Inv M) (ha0 : 0 ≤ a) (ha1 : a ≤ 9) (k : ∀ (v w : Int) (M1 : xa_M), xm_cor M M1 → xm_trn M1 → xm_FT (-1) M w M1 → ((w = 0 ∨ w = -3 ∨ w = -5) ∧ v ≤ 0) → (0 ≤ v → w = 0 ∧ M1 77 a = 1 ∧ 1 ≤ M1 76 a) → post (some (0, 0, -5, 0, v)) M1) : xa_C xm_I A h0 (d + 5) 226 [(2, 60, 0, 0, 0), (0, 0, l1, u1, a)] M post := by
  refine xa_C_arg [(2, 60, 0, 0, 0), (0, 0, 0, 9, a)] (xa_svR (xa_svI (fun _ _ _ _ => by omega) xa_sv0)) (xa_C_wk ?_)
  refine xa_meth (Q0 := (3, 1, false, 0, 0, 12)) (by decide +kernel) ⟨rfl, rfl⟩ (full := s_c_226) rfl rfl ?_
  intro hM hv Q hgo
  refine hgo.1 18 [] 0 _ _ _ ?_
  show xa_C xm_I A h0 _ 227 [(2, 60, 0, 0, 0), (0, 0, (-1), (-1), (-1))] M _
  refine xa_C_mok (ct_findTurns (xm_Inv_cor xm_cor_r hI) (fun v1 M1 hv1 hc1 hT1 hF1 hM1 => ?_))
  refine And.intro ?_ ?_
  · intro (c2 : 0 ≤ v1)
    refine And.intro ?_ ?_
    · intro (c3 : (M1 77 a) = 0)
      show xa_wk post (some (0, 0, (-2), (-2), (-2))) M1
      have t := xm_t77 hM1 a ha0 (by omega)
      exact xa_wkI (-2) rfl (fun _ _ => by omega) (k (-2) v1 M1 hc1 hT1 hF1 (by omega) (fun _ => ⟨by omega, by omega, by first | exact hT1 a ha0 (by omega) (by omega) | omega⟩))
    · intro (c3 : ¬ (M1 77 a) = 0)
      show xa_wk post (some (0, 0, 0, 0, 0)) M1
      have t := xm_t77 hM1 a ha0 (by omega)
      exact xa_wkI 0 rfl (fun _ _ => by omega) (k 0 v1 M1 hc1 hT1 hF1 (by omega) (fun _ => ⟨by omega, by omega, by first | exact hT1 a ha0 (by omega) (by omega) | omega⟩))
  · intro (c2 : v1 < 0)
    show xa_wk post (some (0, 0, (-5), 0, v1)) M1
    have t := xm_t77 hM1 a ha0 (by omega)
    exact xa_wkI v1 rfl (fun _ _ => by omega) (k v1 v1 M1 hc1 hT1 hF1 (by omega) (fun _ => ⟨by omega, by omega, by first | exact hT1 a ha0 (by omega) (by omega) | omega⟩))
theorem ct_fairState {A : Nat → Nat} {h0 : g_H} {d : Nat} {M : xa_M} {post : Option xa_V → xa_M → Prop} {l1 u1 : Int} {a : Int} (hI : xm_Inv M) (ha0 : 0 ≤ a) (ha1 : a ≤ 9) (k : ∀ (v w : Int) (M1 : xa_M), xm_cor M M1 → xm_trn M1 → xm_FT (-1) M w M1 → ((w = 0 ∨ w = -3 ∨ w = -5) ∧ v ≤ 0) → (0 ≤ v → w = 0 ∧ M1 77 a = 1 ∧ 1 ≤ M1 76 a ∧ M1 76 a ≤ 1000000000 ∧ ((M1 75 a).natAbs : Int) ≤ 1000000000) → post (some (0, 0, -5, 0, v)) M1) : xa_C xm_I A h0 (d + 6) 273 [(2, 60, 0, 0, 0), (0, 0, l1, u1, a)] M post := by
  refine xa_C_arg [(2, 60, 0, 0, 0), (0, 0, 0, 9, a)] (xa_svR (xa_svI (fun _ _ _ _ => by omega) xa_sv0)) (xa_C_wk ?_)
  refine xa_meth (Q0 := (3, 1, false, 0, 0, 12)) (by decide +kernel) ⟨rfl, rfl⟩ (full := s_c_273) rfl rfl ?_
  intro hM hv Q hgo
  refine hgo.1 26 [] 0 _ _ _ ?_
  show xa_C xm_I A h0 _ 226 [(2, 60, 0, 0, 0), (0, 0, 0, 9, a)] M _
  refine xa_C_mok (ct_stateOf (xm_Inv_cor xm_cor_r hI) (by omega) (by omega) (fun v1 w1 M1 hc1 hT1 hF1 hw1 hv1 hM1 => ?_))
  refine And.intro ?_ ?_
  · intro (c2 : 0 ≤ v1)
    show xa_C xm_I A h0 _ 56 [(1, 0, (-1000000000000000), 1000000000000000, M1 75 a)] M1 _
    refine ct_absb 1000000000000000 (by decide) (by decide) (by decide) (fun a3 ea3 => ?_)
    refine And.intro ?_ ?_
    · intro (c4 : 1000000000 < a3)
      show xa_wk post (some (0, 0, (-5), (-5), (-5))) M1
      exact xa_wkI (-5) rfl (fun _ _ => by omega) (k (-5) w1 M1 hc1 hT1 hF1 (by omega) (fun _ => ⟨by omega, by omega, by omega, by omega, by omega⟩))
    · intro (c4 : a3 ≤ 1000000000)
      refine And.intro ?_ ?_
      · intro (c5 : (M1 76 a) ≤ 1000000000)
        show xa_wk post (some (0, 0, 0, 0, 0)) M1
        exact xa_wkI 0 rfl (fun _ _ => by omega) (k 0 w1 M1 hc1 hT1 hF1 (by omega) (fun _ => ⟨by omega, by omega, by omega, by omega, by omega⟩))
      · intro (c5 : 1000000000 < (M1 76 a))
        show xa_wk post (some (0, 0, (-5), (-5), (-5))) M1
        exact xa_wkI (-5) rfl (fun _ _ => by omega) (k (-5) w1 M1 hc1 hT1 hF1 (by omega) (fun _ => ⟨by omega, by omega, by omega, by omega, by omega⟩))
  · intro (c2 : v1 < 0)
    show xa_wk post (some (0, 0, (-5), 0, v1)) M1
    exact xa_wkI v1 rfl (fun _ _ => by omega) (k v1 w1 M1 hc1 hT1 hF1 (by omega) (fun _ => ⟨by omega, by omega, by omega, by omega, by omega⟩))
theorem ms_turn {A : Nat → Nat} {h0 : g_H} {d : Nat} {M : xa_M} {post : Option xa_V → xa_M → Prop} {l1 u1 : Int} {a : Int} (hI : xm_Inv M) (k : ∀ (o : Option xa_V) (M1 : xa_M), xm_cor M M1 → post o M1) : xa_C xm_I A h0 (d + 6) 225 [(2, 60, 0, 0, 0), (0, 0, l1, u1, a)] M post := by
  refine xa_C_arg [(2, 60, 0, 0, 0), (0, 0, (-2147483648), 2147483647, a)] (xa_svR (xa_svI (fun _ _ _ _ => by omega) xa_sv0)) ?_
  refine xa_meth (Q0 := (3, 1, false, 0, 0, 12)) (by decide +kernel) ⟨rfl, rfl⟩ (full := s_c_225) rfl rfl ?_
  intro hM hv Q hgo
  refine hgo.1 31 [] 0 _ _ _ ?_
  show xa_C xm_I A h0 _ 215 [(0, 0, (-2147483648), 2147483647, a)] (xa_up M 60 21 0) _
  refine ct_isAxle ?_ ?_
  · intro (i1 : 0 ≤ a ∧ a ≤ 9)
    show xa_C xm_I A h0 _ 226 [(2, 60, 0, 0, 0), (0, 0, (-2147483648), 2147483647, a)] (xa_up M 60 21 0) _
    refine xa_C_mok (ct_stateOf (xm_Inv_cor (xm_cor_f (by omega) xm_cor_r) hI) (by omega) (by omega) (fun v2 w2 M2 hc2 hT2 hF2 hw2 hv2 hM2 => ?_))
    refine And.intro ?_ ?_
    · intro (c3 : 0 ≤ v2)
      refine And.intro (show 0 ≤ a ∧ a < 10 by omega) ?_
      refine And.intro (show 0 ≤ a ∧ a < 10 by omega) ?_
      show xa_C xm_I A h0 _ 230 [(2, 60, 0, 0, 0), (1, 0, (-1000000000000000), 1000000000000000, M2 75 a), (1, 0, 0, 1000000000000000, M2 76 a)] (xa_up M2 60 20 0) _
      refine ct_tellPart (n := 0) (by first | rfl | (simp [xa_up]; done)) (by decide) (by decide) (by decide) (by omega) (fun g4 eg4 pg4 qg4 => ?_)
      show post (some (0, 0, 0, 0, 0)) (xa_up (xa_up (xa_up (xa_up (xa_up M2 60 20 0) 74 0 ((M2 75 a).tdiv g4)) 60 20 1) 74 1 ((M2 76 a).tdiv g4)) 60 20 2)
      exact k _ _ (xm_cor_f (by omega) (xm_cor_a rfl (xm_cor_f (by omega) (xm_cor_a rfl (xm_cor_f (by omega) (xm_cor_t (xm_cor_f (by omega) xm_cor_r) hc2))))))
    · intro (c3 : v2 < 0)
      show post (some (0, 0, (-5), 0, v2)) M2
      exact k _ _ (xm_cor_t (xm_cor_f (by omega) xm_cor_r) hc2)
  · intro (i1 : ¬ (0 ≤ a ∧ a ≤ 9))
    show post (some (0, 0, (-1), (-1), (-1))) (xa_up M 60 21 0)
    exact k _ _ (xm_cor_f (by omega) xm_cor_r)
theorem ms_show {A : Nat → Nat} {h0 : g_H} {d : Nat} {M : xa_M} {post : Option xa_V → xa_M → Prop} {l1 u1 l2 u2 : Int} {a b : Int} (hI : xm_Inv M) (k : ∀ (o : Option xa_V) (M1 : xa_M), xm_cor M M1 → post o M1) : xa_C xm_I A h0 (d + 7) 272 [(2, 60, 0, 0, 0), (0, 0, l1, u1, a), (0, 0, l2, u2, b)] M post := by
  refine xa_C_arg [(2, 60, 0, 0, 0), (0, 0, (-2147483648), 2147483647, a), (0, 0, (-2147483648), 2147483647, b)] (xa_svR (xa_svI (fun _ _ _ _ => by omega) (xa_svI (fun _ _ _ _ => by omega) xa_sv0))) ?_
  refine xa_meth (Q0 := (4, 1, false, 0, 0, 12)) (by decide +kernel) ⟨rfl, rfl⟩ (full := s_c_272) rfl rfl ?_
  intro hM hv Q hgo
  refine hgo.1 17 [25] 0 _ _ _ ?_
  show xa_C xm_I A h0 _ 215 [(0, 0, (-2147483648), 2147483647, a)] (xa_up M 60 21 0) _
  refine ct_isAxle ?_ ?_
  · intro (i1 : 0 ≤ a ∧ a ≤ 9)
    show xa_C xm_I A h0 _ 214 [(0, 0, (-2147483648), 2147483647, b), (0, 0, 0, 0, 0), (0, 0, 2000, 2000, 2000)] (xa_up M 60 21 0) _
    refine ct_in ?_ ?_
    · intro (i2 : 0 ≤ b ∧ b ≤ 2000)
      show Q 25 [(0, (2, 60, 0, 0, 0)), (1, (0, 0, (-2147483648), 2147483647, a)), (2, (0, 0, (-2147483648), 2147483647, b))] [] (xa_up M 60 21 0)
      refine hgo.2.1 25 _ [(0, (2, 60, 0, 0, 0)), (1, (0, 0, 0, 9, a)), (2, (0, 0, 0, 2000, b))] _ _ (xa_subR rfl (xa_subI rfl rfl (fun _ _ _ _ => by omega) (xa_subI rfl rfl (fun _ _ _ _ => by omega) xa_sub0))) ?_
      refine hgo.1 34 [] 25 _ _ _ ?_
      show xa_C xm_I A h0 _ 273 [(2, 60, 0, 0, 0), (0, 0, 0, 9, a)] (xa_up M 60 21 0) _
      refine xa_C_mok (ct_fairState (xm_Inv_cor (xm_cor_f (by omega) xm_cor_r) hI) (by omega) (by omega) (fun v103 w103 M103 hc103 hT103 hF103 hw103 hv103 hM103 => ?_))
      refine And.intro ?_ ?_
      · intro (c104 : 0 ≤ v103)
        show xa_C xm_I A h0 _ 56 [(1, 0, (-1000000000000000), 1000000000000000, M103 75 a)] (xa_up M103 60 20 0) _
        refine ct_absb 1000000000000000 (by decide) (by decide) (by decide) (fun a105 ea105 => ?_)
        refine And.intro (show 0 < (M103 76 a) by omega) ?_
        show xa_C xm_I A h0 _ 230 [(2, 60, 0, 0, 0), (1, 0, 0, 999999999999999, (a105 * b) % (M103 76 a)), (1, 0, 0, 1000000000000000, M103 76 a)] (xa_up M103 60 20 0) _
        refine ct_tellPart (n := 0) (by first | rfl | (simp [xa_up]; done)) (by decide) (by decide) (by decide) (by omega) (fun g106 eg106 pg106 qg106 => ?_)
        show post (some (0, 0, 0, 0, 0)) (xa_up (xa_up (xa_up (xa_up (xa_up M103 60 20 0) 74 0 (((a105 * b) % (M103 76 a)).tdiv g106)) 60 20 1) 74 1 ((M103 76 a).tdiv g106)) 60 20 2)
        exact k _ _ (xm_cor_f (by omega) (xm_cor_a rfl (xm_cor_f (by omega) (xm_cor_a rfl (xm_cor_f (by omega) (xm_cor_t (xm_cor_f (by omega) xm_cor_r) hc103))))))
      · intro (c104 : v103 < 0)
        show post (some (0, 0, (-5), 0, v103)) M103
        exact k _ _ (xm_cor_t (xm_cor_f (by omega) xm_cor_r) hc103)
    · intro (i2 : ¬ (0 ≤ b ∧ b ≤ 2000))
      show post (some (0, 0, (-1), (-1), (-1))) (xa_up M 60 21 0)
      exact k _ _ (xm_cor_f (by omega) xm_cor_r)
  · intro (i1 : ¬ (0 ≤ a ∧ a ≤ 9))
    show post (some (0, 0, (-1), (-1), (-1))) (xa_up M 60 21 0)
    exact k _ _ (xm_cor_f (by omega) xm_cor_r)
theorem ms_turning {A : Nat → Nat} {h0 : g_H} {d : Nat} {M : xa_M} {post : Option xa_V → xa_M → Prop} (hI : xm_Inv M) (k : ∀ (o : Option xa_V) (M1 : xa_M), xm_cor M M1 → post o M1) : xa_C xm_I A h0 (d + 5) 232 [(2, 60, 0, 0, 0)] M post := by
  refine xa_meth (Q0 := (5, 1, false, 0, 0, 12)) (by decide +kernel) ⟨rfl, rfl⟩ (full := s_c_232) rfl rfl ?_
  intro hM hv Q hgo
  have loop : ∀ (n : Nat) (a b c : Int) (M1 : xa_M), 0 ≤ a → a ≤ 10 → xm_cor M M1 → 10 - a < (n : Int) → Q 24 [(4, (0, 0, 0, 10, a)), (3, (0, 0, (-2147483648), 2147483647, c)), (2, (0, 0, (-2147483648), 2147483647, b)), (0, (2, 60, 0, 0, 0))] [] M1 := by
    intro n
    induction n with
    | zero => intro a b c M1 h1 h2 hc hms; omega
    | succ n ih =>
      intro a b c M1 h1 h2 hc hms
      refine hgo.1 40 [24] 24 _ _ _ ?_
      refine And.intro ?_ ?_
      · intro (c1 : 10 ≤ a)
        show xa_C xm_I A h0 _ 231 [(2, 60, 0, 0, 0), (1, 0, (-2147483648), 2147483647, c)] (xa_up M1 60 20 0) _
        refine ct_tell (n := 0) (by first | rfl | (simp [xa_up]; done) | omega) (by omega) (by omega) ?_
        show post (some (0, 0, (-2147483648), 2147483647, b)) (xa_up (xa_up (xa_up M1 60 20 0) 74 0 c) 60 20 1)
        exact k _ _ (xm_cor_f (by omega) (xm_cor_a rfl (xm_cor_f (by omega) hc)))
      · intro (c1 : a < 10)
        refine And.intro (show 0 ≤ a ∧ a < 10 by omega) ?_
        refine And.intro ?_ ?_
        · intro (c2 : (M1 77 a) = 0)
          refine And.intro (show 0 ≤ a ∧ a < 10 by omega) ?_
          refine And.intro ?_ ?_
          · intro (c3 : (M1 77 a) = 0)
            show Q 24 [(4, (0, 0, 1, 11, a + 1)), (3, (0, 0, (-2147483648), 2147483647, xa_ib 4 c 0)), (2, (0, 0, (-2147483648), 2147483647, xa_ib 4 b 0)), (0, (2, 60, 0, 0, 0))] [] M1
            refine hgo.2.1 24 _ [(4, (0, 0, 0, 10, a + 1)), (3, (0, 0, (-2147483648), 2147483647, xa_ib 4 c 0)), (2, (0, 0, (-2147483648), 2147483647, xa_ib 4 b 0)), (0, (2, 60, 0, 0, 0))] _ _ (xa_subI rfl rfl (fun _ _ _ _ => by omega) (xa_subI rfl rfl (fun _ _ _ _ => by omega) (xa_subI rfl rfl (fun _ _ _ _ => by omega) (xa_subR rfl xa_sub0)))) ?_
            exact ih (a + 1) (xa_ib 4 b 0) (xa_ib 4 c 0) M1 (by omega) (by omega) hc (by omega)
          · intro (c3 : ¬ (M1 77 a) = 0)
            refine And.intro (show 0 ≤ a ∧ a < 10 by omega) ?_
            refine And.intro ?_ ?_
            · intro (c4 : (M1 75 a) ≤ 0)
              show Q 24 [(4, (0, 0, 1, 11, a + 1)), (3, (0, 0, (-2147483648), 2147483647, xa_ib 4 c 0)), (2, (0, 0, (-2147483648), 2147483647, xa_ib 4 b 0)), (0, (2, 60, 0, 0, 0))] [] M1
              refine hgo.2.1 24 _ [(4, (0, 0, 0, 10, a + 1)), (3, (0, 0, (-2147483648), 2147483647, xa_ib 4 c 0)), (2, (0, 0, (-2147483648), 2147483647, xa_ib 4 b 0)), (0, (2, 60, 0, 0, 0))] _ _ (xa_subI rfl rfl (fun _ _ _ _ => by omega) (xa_subI rfl rfl (fun _ _ _ _ => by omega) (xa_subI rfl rfl (fun _ _ _ _ => by omega) (xa_subR rfl xa_sub0)))) ?_
              exact ih (a + 1) (xa_ib 4 b 0) (xa_ib 4 c 0) M1 (by omega) (by omega) hc (by omega)
            · intro (c4 : 0 < (M1 75 a))
              show Q 24 [(4, (0, 0, 1, 11, a + 1)), (3, (0, 0, (-2147483648), 2147483647, xa_ib 4 c (xa_ib 6 1 a))), (2, (0, 0, (-2147483648), 2147483647, xa_ib 4 b 0)), (0, (2, 60, 0, 0, 0))] [] M1
              refine hgo.2.1 24 _ [(4, (0, 0, 0, 10, a + 1)), (3, (0, 0, (-2147483648), 2147483647, xa_ib 4 c (xa_ib 6 1 a))), (2, (0, 0, (-2147483648), 2147483647, xa_ib 4 b 0)), (0, (2, 60, 0, 0, 0))] _ _ (xa_subI rfl rfl (fun _ _ _ _ => by omega) (xa_subI rfl rfl (fun _ _ _ _ => by omega) (xa_subI rfl rfl (fun _ _ _ _ => by omega) (xa_subR rfl xa_sub0)))) ?_
              exact ih (a + 1) (xa_ib 4 b 0) (xa_ib 4 c (xa_ib 6 1 a)) M1 (by omega) (by omega) hc (by omega)
        · intro (c2 : ¬ (M1 77 a) = 0)
          refine And.intro (show 0 ≤ a ∧ a < 10 by omega) ?_
          refine And.intro ?_ ?_
          · intro (c5 : (M1 77 a) = 0)
            show Q 24 [(4, (0, 0, 1, 11, a + 1)), (3, (0, 0, (-2147483648), 2147483647, xa_ib 4 c 0)), (2, (0, 0, (-2147483648), 2147483647, xa_ib 4 b (xa_ib 6 1 a))), (0, (2, 60, 0, 0, 0))] [] M1
            refine hgo.2.1 24 _ [(4, (0, 0, 0, 10, a + 1)), (3, (0, 0, (-2147483648), 2147483647, xa_ib 4 c 0)), (2, (0, 0, (-2147483648), 2147483647, xa_ib 4 b (xa_ib 6 1 a))), (0, (2, 60, 0, 0, 0))] _ _ (xa_subI rfl rfl (fun _ _ _ _ => by omega) (xa_subI rfl rfl (fun _ _ _ _ => by omega) (xa_subI rfl rfl (fun _ _ _ _ => by omega) (xa_subR rfl xa_sub0)))) ?_
            exact ih (a + 1) (xa_ib 4 b (xa_ib 6 1 a)) (xa_ib 4 c 0) M1 (by omega) (by omega) hc (by omega)
          · intro (c5 : ¬ (M1 77 a) = 0)
            refine And.intro (show 0 ≤ a ∧ a < 10 by omega) ?_
            refine And.intro ?_ ?_
            · intro (c6 : (M1 75 a) ≤ 0)
              show Q 24 [(4, (0, 0, 1, 11, a + 1)), (3, (0, 0, (-2147483648), 2147483647, xa_ib 4 c 0)), (2, (0, 0, (-2147483648), 2147483647, xa_ib 4 b (xa_ib 6 1 a))), (0, (2, 60, 0, 0, 0))] [] M1
              refine hgo.2.1 24 _ [(4, (0, 0, 0, 10, a + 1)), (3, (0, 0, (-2147483648), 2147483647, xa_ib 4 c 0)), (2, (0, 0, (-2147483648), 2147483647, xa_ib 4 b (xa_ib 6 1 a))), (0, (2, 60, 0, 0, 0))] _ _ (xa_subI rfl rfl (fun _ _ _ _ => by omega) (xa_subI rfl rfl (fun _ _ _ _ => by omega) (xa_subI rfl rfl (fun _ _ _ _ => by omega) (xa_subR rfl xa_sub0)))) ?_
              exact ih (a + 1) (xa_ib 4 b (xa_ib 6 1 a)) (xa_ib 4 c 0) M1 (by omega) (by omega) hc (by omega)
            · intro (c6 : 0 < (M1 75 a))
              show Q 24 [(4, (0, 0, 1, 11, a + 1)), (3, (0, 0, (-2147483648), 2147483647, xa_ib 4 c (xa_ib 6 1 a))), (2, (0, 0, (-2147483648), 2147483647, xa_ib 4 b (xa_ib 6 1 a))), (0, (2, 60, 0, 0, 0))] [] M1
              refine hgo.2.1 24 _ [(4, (0, 0, 0, 10, a + 1)), (3, (0, 0, (-2147483648), 2147483647, xa_ib 4 c (xa_ib 6 1 a))), (2, (0, 0, (-2147483648), 2147483647, xa_ib 4 b (xa_ib 6 1 a))), (0, (2, 60, 0, 0, 0))] _ _ (xa_subI rfl rfl (fun _ _ _ _ => by omega) (xa_subI rfl rfl (fun _ _ _ _ => by omega) (xa_subI rfl rfl (fun _ _ _ _ => by omega) (xa_subR rfl xa_sub0)))) ?_
              exact ih (a + 1) (xa_ib 4 b (xa_ib 6 1 a)) (xa_ib 4 c (xa_ib 6 1 a)) M1 (by omega) (by omega) hc (by omega)
  refine hgo.1 20 [24] 0 _ _ _ ?_
  show xa_C xm_I A h0 _ 227 [(2, 60, 0, 0, 0), (0, 0, (-1), (-1), (-1))] (xa_up M 60 21 0) _
  refine xa_C_mok (ct_findTurns (xm_Inv_cor (xm_cor_f (by omega) xm_cor_r) hI) (fun v1 M1 hv1 hc1 hT1 hF1 hM1 => ?_))
  refine And.intro ?_ ?_
  · intro (c2 : 0 ≤ v1)
    show Q 24 [(4, (0, 0, 0, 0, 0)), (3, (0, 0, 0, 0, 0)), (2, (0, 0, 0, 0, 0)), (1, (0, 0, (-5), 0, v1)), (0, (2, 60, 0, 0, 0))] [] M1
    refine hgo.2.1 24 _ [(4, (0, 0, 0, 10, 0)), (3, (0, 0, (-2147483648), 2147483647, 0)), (2, (0, 0, (-2147483648), 2147483647, 0)), (0, (2, 60, 0, 0, 0))] _ _ (xa_subI rfl rfl (fun _ _ _ _ => by omega) (xa_subI rfl rfl (fun _ _ _ _ => by omega) (xa_subI rfl rfl (fun _ _ _ _ => by omega) (xa_subR rfl xa_sub0)))) ?_
    exact loop 11 0 0 0 _ (by omega) (by omega) (xm_cor_t (xm_cor_f (by omega) xm_cor_r) hc1) (by omega)
  · intro (c2 : v1 < 0)
    show post (some (0, 0, (-5), 0, v1)) M1
    exact k _ _ (xm_cor_t (xm_cor_f (by omega) xm_cor_r) hc1)
theorem ms_jams {A : Nat → Nat} {h0 : g_H} {d : Nat} {M : xa_M} {post : Option xa_V → xa_M → Prop} (hI : xm_Inv M) (k : ∀ (o : Option xa_V) (M1 : xa_M), xm_cor M M1 → post o M1) : xa_C xm_I A h0 (d + 5) 233 [(2, 60, 0, 0, 0)] M post := by
  refine xa_meth (Q0 := (5, 1, false, 0, 0, 12)) (by decide +kernel) ⟨rfl, rfl⟩ (full := s_c_233) rfl rfl ?_
  intro hM hv Q hgo
  have b6 := xm_f6 hM
  have loop : ∀ (n : Nat) (m b : Int) (M1 : xa_M), 0 ≤ m → m ≤ 16 → xm_cor M M1 → 16 - m < (n : Int) → Q 31 [(3, (0, 0, 0, 16, m)), (2, (0, 0, (-2147483648), 2147483647, b)), (0, (2, 60, 0, 0, 0))] [] M1 := by
    intro n
    induction n with
    | zero => intro m b M1 h1 h2 hc hms; omega
    | succ n ih =>
      intro m b M1 h1 h2 hc hms
      have e6 := xm_corf hc 6 (by omega)
      refine hgo.1 27 [31] 31 _ _ _ ?_
      refine And.intro ?_ ?_
      · intro (c1 : (M1 60 6) ≤ m)
        show post (some (0, 0, (-2147483648), 2147483647, b)) M1
        exact k _ _ hc
      · intro (c1 : m < (M1 60 6))
        show xa_C xm_I A h0 _ 227 [(2, 60, 0, 0, 0), (0, 0, 0, 16, m)] M1 _
        refine xa_C_mok (ct_findTurns (xm_Inv_cor hc hI) (fun v2 M2 hv2 hc2 hT2 hF2 hM2 => ?_))
        refine And.intro ?_ ?_
        · intro (c3 : ¬ v2 = (-5))
          refine And.intro ?_ ?_
          · intro (c4 : ¬ v2 = 0)
            show Q 31 [(3, (0, 0, 1, 17, m + 1)), (2, (0, 0, (-2147483648), 2147483647, xa_ib 4 b 0)), (4, (0, 0, (-5), 0, v2)), (0, (2, 60, 0, 0, 0))] [] M2
            refine hgo.2.1 31 _ [(3, (0, 0, 0, 16, m + 1)), (2, (0, 0, (-2147483648), 2147483647, xa_ib 4 b 0)), (0, (2, 60, 0, 0, 0))] _ _ (xa_subI rfl rfl (fun _ _ _ _ => by omega) (xa_subI rfl rfl (fun _ _ _ _ => by omega) (xa_subR rfl xa_sub0))) ?_
            exact ih (m + 1) (xa_ib 4 b 0) _ (by omega) (by omega) (xm_cor_t hc hc2) (by omega)
          · intro (c4 : v2 = 0)
            show Q 31 [(3, (0, 0, 1, 17, m + 1)), (2, (0, 0, (-2147483648), 2147483647, xa_ib 4 b (xa_ib 6 1 m))), (4, (0, 0, (-5), 0, v2)), (0, (2, 60, 0, 0, 0))] [] M2
            refine hgo.2.1 31 _ [(3, (0, 0, 0, 16, m + 1)), (2, (0, 0, (-2147483648), 2147483647, xa_ib 4 b (xa_ib 6 1 m))), (0, (2, 60, 0, 0, 0))] _ _ (xa_subI rfl rfl (fun _ _ _ _ => by omega) (xa_subI rfl rfl (fun _ _ _ _ => by omega) (xa_subR rfl xa_sub0))) ?_
            exact ih (m + 1) (xa_ib 4 b (xa_ib 6 1 m)) _ (by omega) (by omega) (xm_cor_t hc hc2) (by omega)
        · intro (c3 : v2 = (-5))
          show post (some (0, 0, (-5), 0, v2)) M2
          exact k _ _ (xm_cor_t hc hc2)
  refine hgo.1 22 [31] 0 _ _ _ ?_
  show xa_C xm_I A h0 _ 227 [(2, 60, 0, 0, 0), (0, 0, (-1), (-1), (-1))] (xa_up M 60 21 0) _
  refine xa_C_mok (ct_findTurns (xm_Inv_cor (xm_cor_f (by omega) xm_cor_r) hI) (fun v1 M1 hv1 hc1 hT1 hF1 hM1 => ?_))
  refine And.intro ?_ ?_
  · intro (c2 : v1 ≤ (-3))
    refine And.intro ?_ ?_
    · intro (c3 : ¬ v1 = (-5))
      show Q 31 [(3, (0, 0, 0, 0, 0)), (2, (0, 0, 0, 0, 0)), (1, (0, 0, (-5), 0, v1)), (0, (2, 60, 0, 0, 0))] [] M1
      refine hgo.2.1 31 _ [(3, (0, 0, 0, 16, 0)), (2, (0, 0, (-2147483648), 2147483647, 0)), (0, (2, 60, 0, 0, 0))] _ _ (xa_subI rfl rfl (fun _ _ _ _ => by omega) (xa_subI rfl rfl (fun _ _ _ _ => by omega) (xa_subR rfl xa_sub0))) ?_
      exact loop 17 0 0 _ (by omega) (by omega) (xm_cor_t (xm_cor_f (by omega) xm_cor_r) hc1) (by omega)
    · intro (c3 : v1 = (-5))
      show post (some (0, 0, (-5), 0, v1)) M1
      exact k _ _ (xm_cor_t (xm_cor_f (by omega) xm_cor_r) hc1)
  · intro (c2 : (-3) < v1)
    show post (some (0, 0, 0, 0, 0)) M1
    exact k _ _ (xm_cor_t (xm_cor_f (by omega) xm_cor_r) hc1)
theorem ms_gives {A : Nat → Nat} {h0 : g_H} {d : Nat} {M : xa_M} {post : Option xa_V → xa_M → Prop} {l1 u1 : Int} {a : Int} (hI : xm_Inv M) (k : ∀ (o : Option xa_V) (M1 : xa_M), xm_cor M M1 → post o M1) : xa_C xm_I A h0 (d + 6) 234 [(2, 60, 0, 0, 0), (0, 0, l1, u1, a)] M post := by
  refine xa_C_arg [(2, 60, 0, 0, 0), (0, 0, (-2147483648), 2147483647, a)] (xa_svR (xa_svI (fun _ _ _ _ => by omega) xa_sv0)) ?_
  refine xa_meth (Q0 := (6, 1, false, 0, 0, 12)) (by decide +kernel) ⟨rfl, rfl⟩ (full := s_c_234) rfl rfl ?_
  intro hM hv Q hgo
  have loop : ∀ (n : Nat) (p b : Int) (M1 : xa_M), 0 ≤ p → p ≤ 8 → xm_cor M M1 → 8 - p < (n : Int) → 0 ≤ a → a ≤ 9 → Q 31 [(4, (0, 0, 0, 8, p)), (3, (0, 0, (-2147483648), 2147483647, b)), (1, (0, 0, 0, 9, a)), (0, (2, 60, 0, 0, 0))] [] M1 := by
    intro n
    induction n with
    | zero => intro p b M1 h1 h2 hc hms; omega
    | succ n ih =>
      intro p b M1 h1 h2 hc hms
      intro ha0 ha1
      refine hgo.2.2 _ _ _ _ (fun hM1 _ => ?_)
      have hI1 := xm_Inv_cor hc hI
      have b11 := xm_f11 hM1
      have t70 : p < M1 60 11 → 0 ≤ M1 70 p ∧ M1 70 p ≤ 2000 := fun h => xm_t70 hM1 p h1 (by omega)
      have t71 : p < M1 60 11 → 0 ≤ M1 71 p ∧ M1 71 p ≤ 2000 := fun h => xm_t71 hM1 p h1 (by omega)
      have hp := hI1.2.2.1 p h1
      refine hgo.1 55 [31] 31 _ _ _ ?_
      refine And.intro ?_ ?_
      · intro (c1 : (M1 60 11) ≤ p)
        refine And.intro ?_ ?_
        · intro (c2 : (M1 75 a) ≤ 0)
          show xa_C xm_I A h0 _ 231 [(2, 60, 0, 0, 0), (1, 0, 0, 0, 0)] (xa_up M1 60 20 0) _
          refine ct_tell (n := 0) (by first | rfl | (simp [xa_up]; done) | omega) (by omega) (by omega) ?_
          show post (some (0, 0, (-2147483648), 2147483647, b)) (xa_up (xa_up (xa_up M1 60 20 0) 74 0 0) 60 20 1)
          exact k _ _ (xm_cor_f (by omega) (xm_cor_a rfl (xm_cor_f (by omega) hc)))
        · intro (c2 : 0 < (M1 75 a))
          show xa_C xm_I A h0 _ 231 [(2, 60, 0, 0, 0), (1, 0, (-2147483648), 2147483647, b)] (xa_up M1 60 20 0) _
          refine ct_tell (n := 0) (by first | rfl | (simp [xa_up]; done) | omega) (by omega) (by omega) ?_
          show post (some (0, 0, (-2147483648), 2147483647, b)) (xa_up (xa_up (xa_up M1 60 20 0) 74 0 b) 60 20 1)
          exact k _ _ (xm_cor_f (by omega) (xm_cor_a rfl (xm_cor_f (by omega) hc)))
      · intro (c1 : p < (M1 60 11))
        refine And.intro (show 0 ≤ p ∧ p < 8 by omega) ?_
        refine And.intro (show 0 ≤ p ∧ p < 8 by omega) ?_
        show xa_C xm_I A h0 _ 229 [(1, 0, 0, 2000, M1 70 p), (1, 0, 0, 2000, M1 71 p)] M1 _
        refine ct_gcd1 (by decide) (by decide) (by omega) (fun g3 eg3 pg3 qg3 => ?_)
        have wg3 := xa_w32_id (n := g3) (by omega) (by omega)
        show xa_C xm_I A h0 _ 56 [(1, 0, (-1000000000000000), 1000000000000000, M1 75 a)] M1 _
        refine ct_absb 1000000000000000 (by decide) (by decide) (by decide) (fun a4 ea4 => ?_)
        refine And.intro (show 0 ≤ p ∧ p < 8 by omega) ?_
        refine And.intro (show 0 < (xa_w32 g3) by omega) ?_
        refine And.intro ?_ ?_
        · intro (c5 : ¬ a4 = ((M1 70 p) / (xa_w32 g3)))
          show Q 31 [(4, (0, 0, 1, 9, p + 1)), (5, (0, 0, (-2147483648), 2147483647, xa_w32 g3)), (3, (0, 0, (-2147483648), 2147483647, b)), (1, (0, 0, 0, 9, a)), (0, (2, 60, 0, 0, 0))] [] M1
          refine hgo.2.1 31 _ [(4, (0, 0, 0, 8, p + 1)), (3, (0, 0, (-2147483648), 2147483647, b)), (1, (0, 0, 0, 9, a)), (0, (2, 60, 0, 0, 0))] _ _ (xa_subI rfl rfl (fun _ _ _ _ => by omega) (xa_subI rfl rfl (fun _ _ _ _ => by omega) (xa_subI rfl rfl (fun _ _ _ _ => by omega) (xa_subR rfl xa_sub0)))) ?_
          exact ih (p + 1) b _ (by omega) (by omega) hc (by omega) ha0 ha1
        · intro (c5 : a4 = ((M1 70 p) / (xa_w32 g3)))
          refine And.intro (show 0 ≤ p ∧ p < 8 by omega) ?_
          refine And.intro (show 0 < (xa_w32 g3) by omega) ?_
          refine And.intro ?_ ?_
          · intro (c6 : ¬ (M1 76 a) = ((M1 71 p) / (xa_w32 g3)))
            show Q 31 [(4, (0, 0, 1, 9, p + 1)), (5, (0, 0, (-2147483648), 2147483647, xa_w32 g3)), (3, (0, 0, (-2147483648), 2147483647, b)), (1, (0, 0, 0, 9, a)), (0, (2, 60, 0, 0, 0))] [] M1
            refine hgo.2.1 31 _ [(4, (0, 0, 0, 8, p + 1)), (3, (0, 0, (-2147483648), 2147483647, b)), (1, (0, 0, 0, 9, a)), (0, (2, 60, 0, 0, 0))] _ _ (xa_subI rfl rfl (fun _ _ _ _ => by omega) (xa_subI rfl rfl (fun _ _ _ _ => by omega) (xa_subI rfl rfl (fun _ _ _ _ => by omega) (xa_subR rfl xa_sub0)))) ?_
            exact ih (p + 1) b _ (by omega) (by omega) hc (by omega) ha0 ha1
          · intro (c6 : (M1 76 a) = ((M1 71 p) / (xa_w32 g3)))
            show Q 31 [(4, (0, 0, 1, 9, p + 1)), (3, (0, 0, (-2147483648), 2147483647, xa_ib 4 b (xa_ib 6 1 p))), (5, (0, 0, (-2147483648), 2147483647, xa_w32 g3)), (1, (0, 0, 0, 9, a)), (0, (2, 60, 0, 0, 0))] [] M1
            refine hgo.2.1 31 _ [(4, (0, 0, 0, 8, p + 1)), (3, (0, 0, (-2147483648), 2147483647, xa_ib 4 b (xa_ib 6 1 p))), (1, (0, 0, 0, 9, a)), (0, (2, 60, 0, 0, 0))] _ _ (xa_subI rfl rfl (fun _ _ _ _ => by omega) (xa_subI rfl rfl (fun _ _ _ _ => by omega) (xa_subI rfl rfl (fun _ _ _ _ => by omega) (xa_subR rfl xa_sub0)))) ?_
            exact ih (p + 1) (xa_ib 4 b (xa_ib 6 1 p)) _ (by omega) (by omega) hc (by omega) ha0 ha1
  refine hgo.1 21 [31] 0 _ _ _ ?_
  show xa_C xm_I A h0 _ 215 [(0, 0, (-2147483648), 2147483647, a)] (xa_up M 60 21 0) _
  refine ct_isAxle ?_ ?_
  · intro (i1 : 0 ≤ a ∧ a ≤ 9)
    show xa_C xm_I A h0 _ 226 [(2, 60, 0, 0, 0), (0, 0, (-2147483648), 2147483647, a)] (xa_up M 60 21 0) _
    refine xa_C_mok (ct_stateOf (xm_Inv_cor (xm_cor_f (by omega) xm_cor_r) hI) (by omega) (by omega) (fun v2 w2 M2 hc2 hT2 hF2 hw2 hv2 hM2 => ?_))
    refine And.intro ?_ ?_
    · intro (c3 : 0 ≤ v2)
      show Q 31 [(4, (0, 0, 0, 0, 0)), (3, (0, 0, 0, 0, 0)), (2, (0, 0, (-5), 0, v2)), (0, (2, 60, 0, 0, 0)), (1, (0, 0, (-2147483648), 2147483647, a))] [] M2
      refine hgo.2.1 31 _ [(4, (0, 0, 0, 8, 0)), (3, (0, 0, (-2147483648), 2147483647, 0)), (1, (0, 0, 0, 9, a)), (0, (2, 60, 0, 0, 0))] _ _ (xa_subI rfl rfl (fun _ _ _ _ => by omega) (xa_subI rfl rfl (fun _ _ _ _ => by omega) (xa_subI rfl rfl (fun _ _ _ _ => by omega) (xa_subR rfl xa_sub0)))) ?_
      exact loop 9 0 0 _ (by omega) (by omega) (xm_cor_t (xm_cor_f (by omega) xm_cor_r) hc2) (by omega) (by omega) (by omega)
    · intro (c3 : v2 < 0)
      show post (some (0, 0, (-5), 0, v2)) M2
      exact k _ _ (xm_cor_t (xm_cor_f (by omega) xm_cor_r) hc2)
  · intro (i1 : ¬ (0 ≤ a ∧ a ≤ 9))
    show post (some (0, 0, (-1), (-1), (-1))) (xa_up M 60 21 0)
    exact k _ _ (xm_cor_f (by omega) xm_cor_r)
theorem ct_findGap {A : Nat → Nat} {h0 : g_H} {d : Nat} {M : xa_M} {post : Option xa_V → xa_M → Prop} {l1 u1 l2 u2 : Int} {a p : Int} (ha0 : 0 ≤ a) (ha1 : a ≤ 9) (hp0 : 0 ≤ p) (hp1 : p ≤ 7) (h1 : 1 ≤ M 76 a ∧ M 76 a ≤ 1000000000) (h2 : ((M 75 a).natAbs : Int) ≤ 1000000000) (h3 : 1 ≤ M 71 p) (k : ∀ u l : Int, (-4000000000000 ≤ u ∧ u ≤ 4000000000000) → (1 ≤ l ∧ l ≤ 4000000000000) → post none (xa_up (xa_up M 60 50 u) 60 51 l)) : xa_C xm_I A h0 (d + 2) 276 [(2, 60, 0, 0, 0), (0, 0, l1, u1, a), (0, 0, l2, u2, p)] M post := by
  refine xa_C_arg [(2, 60, 0, 0, 0), (0, 0, 0, 9, a), (0, 0, 0, 7, p)] (xa_svR (xa_svI (fun _ _ _ _ => by omega) (xa_svI (fun _ _ _ _ => by omega) xa_sv0))) ?_
  refine xa_meth (Q0 := (3, 0, false, 0, 0, 12)) (by decide +kernel) ⟨rfl, rfl⟩ (full := s_c_276) rfl rfl ?_
  intro hM hv Q hgo
  have t75 := xm_t75 hM a ha0 (by omega)
  have t70 := xm_t70 hM p hp0 (by omega)
  have t71 := xm_t71 hM p hp0 (by omega)
  have m1 := xm_mulc (p := ((M 75 a).natAbs : Int)) (q := M 71 p) (by omega) (by omega) (by omega) (by omega)
  have m2 := xm_mulc (p := M 76 a) (q := M 70 p) (by omega) (by omega) (by omega) (by omega)
  have m3 := xm_mulc (p := M 76 a) (q := M 71 p) (by omega) (by omega) (by omega) (by omega)
  have m4 := Int.mul_pos (show 0 < M 76 a by omega) (show 0 < M 71 p by omega)
  refine hgo.1 41 [] 0 _ _ _ ?_
  show xa_C xm_I A h0 _ 56 [(1, 0, (-1000000000000000), 1000000000000000, M 75 a)] M _
  refine ct_absb 1000000000000000 (by decide) (by decide) (by decide) (fun a1 ea1 => ?_)
  refine And.intro (show (-4000000000000) ≤ ((a1 * (M 71 p)) - ((M 76 a) * (M 70 p))) ∧ ((a1 * (M 71 p)) - ((M 76 a) * (M 70 p))) ≤ 4000000000000 by (subst ea1; omega)) ?_
  refine And.intro (show 0 ≤ ((M 76 a) * (M 71 p)) ∧ ((M 76 a) * (M 71 p)) ≤ 4000000000000 by (subst ea1; omega)) ?_
  show post none (xa_up (xa_up M 60 50 ((a1 * (M 71 p)) - ((M 76 a) * (M 70 p)))) 60 51 ((M 76 a) * (M 71 p)))
  exact k _ _ (by subst ea1; omega) (by omega)
theorem ms_near {A : Nat → Nat} {h0 : g_H} {d : Nat} {M : xa_M} {post : Option xa_V → xa_M → Prop} {l1 u1 l2 u2 l3 u3 : Int} {a b c : Int} (hI : xm_Inv M) (k : ∀ (o : Option xa_V) (M1 : xa_M), xm_cor M M1 → post o M1) : xa_C xm_I A h0 (d + 7) 275 [(2, 60, 0, 0, 0), (0, 0, l1, u1, a), (0, 0, l2, u2, b), (0, 0, l3, u3, c)] M post := by
  refine xa_C_arg [(2, 60, 0, 0, 0), (0, 0, (-2147483648), 2147483647, a), (0, 0, (-2147483648), 2147483647, b), (0, 0, (-2147483648), 2147483647, c)] (xa_svR (xa_svI (fun _ _ _ _ => by omega) (xa_svI (fun _ _ _ _ => by omega) (xa_svI (fun _ _ _ _ => by omega) xa_sv0)))) ?_
  refine xa_meth (Q0 := (5, 1, false, 0, 0, 12)) (by decide +kernel) ⟨rfl, rfl⟩ (full := s_c_275) rfl rfl ?_
  intro hM hv Q hgo
  have b11 := xm_f11 hM
  refine hgo.1 21 [33] 0 _ _ _ ?_
  show xa_C xm_I A h0 _ 215 [(0, 0, (-2147483648), 2147483647, a)] (xa_up M 60 21 0) _
  refine ct_isAxle ?_ ?_
  · intro (i1 : 0 ≤ a ∧ a ≤ 9)
    show xa_C xm_I A h0 _ 239 [(2, 60, 0, 0, 0), (0, 0, (-2147483648), 2147483647, b)] (xa_up M 60 21 0) _
    refine ct_isPeriod ?_ ?_
    · intro (i2 : 0 ≤ b ∧ b < (M 60 11))
      show xa_C xm_I A h0 _ 214 [(0, 0, (-2147483648), 2147483647, c), (0, 0, 0, 0, 0), (0, 0, 2000, 2000, 2000)] (xa_up M 60 21 0) _
      refine ct_in ?_ ?_
      · intro (i3 : 0 ≤ c ∧ c ≤ 2000)
        show Q 33 [(0, (2, 60, 0, 0, 0)), (1, (0, 0, (-2147483648), 2147483647, a)), (2, (0, 0, (-2147483648), 2147483647, b)), (3, (0, 0, (-2147483648), 2147483647, c))] [] (xa_up M 60 21 0)
        refine hgo.2.1 33 _ [(0, (2, 60, 0, 0, 0)), (1, (0, 0, 0, 9, a)), (2, (0, 0, 0, 7, b)), (3, (0, 0, 0, 2000, c))] _ _ (xa_subR rfl (xa_subI rfl rfl (fun _ _ _ _ => by omega) (xa_subI rfl rfl (fun _ _ _ _ => by omega) (xa_subI rfl rfl (fun _ _ _ _ => by omega) xa_sub0)))) ?_
        refine hgo.1 43 [] 33 _ _ _ ?_
        show xa_C xm_I A h0 _ 273 [(2, 60, 0, 0, 0), (0, 0, 0, 9, a)] (xa_up M 60 21 0) _
        refine xa_C_mok (ct_fairState (xm_Inv_cor (xm_cor_f (by omega) xm_cor_r) hI) (by omega) (by omega) (fun v104 w104 M104 hc104 hT104 hF104 hw104 hv104 hM104 => ?_))
        refine And.intro ?_ ?_
        · intro (c105 : 0 ≤ v104)
          show xa_C xm_I A h0 _ 276 [(2, 60, 0, 0, 0), (0, 0, 0, 9, a), (0, 0, 0, 7, b)] M104 _
          refine ct_findGap (by omega) (by omega) (by omega) (by omega) (by omega) (by omega) (by rw [xm_corq (xm_cor_t (xm_cor_f (by omega) xm_cor_r) hc104) 71 rfl]; exact (hI.2.2.1 _ (by omega) (by omega)).2) (fun u106 l106 bu106 bl106 => ?_)
          show xa_C xm_I A h0 _ 230 [(2, 60, 0, 0, 0), (1, 0, (-8000000000000000), 8000000000000000, u106 * c), (1, 0, 0, 4000000000000, l106)] (xa_up (xa_up (xa_up M104 60 50 u106) 60 51 l106) 60 20 0) _
          refine ct_tellPart (n := 0) (by first | rfl | (simp [xa_up]; done)) (by decide) (by decide) (by decide) (by omega) (fun g107 eg107 pg107 qg107 => ?_)
          refine And.intro ?_ ?_
          · intro (c108 : (u106 * c) ≤ 0)
            refine And.intro ?_ ?_
            · intro (c109 : 0 ≤ (u106 * c))
              show post (some (0, 0, 0, 0, 0)) (xa_up (xa_up (xa_up (xa_up (xa_up (xa_up (xa_up M104 60 50 u106) 60 51 l106) 60 20 0) 74 0 ((u106 * c).tdiv g107)) 60 20 1) 74 1 (l106.tdiv g107)) 60 20 2)
              exact k _ _ (xm_cor_f (by omega) (xm_cor_a rfl (xm_cor_f (by omega) (xm_cor_a rfl (xm_cor_f (by omega) (xm_cor_f (by omega) (xm_cor_f (by omega) (xm_cor_t (xm_cor_f (by omega) xm_cor_r) hc104))))))))
            · intro (c109 : (u106 * c) < 0)
              show post (some (0, 0, 2, 2, 2)) (xa_up (xa_up (xa_up (xa_up (xa_up (xa_up (xa_up M104 60 50 u106) 60 51 l106) 60 20 0) 74 0 ((u106 * c).tdiv g107)) 60 20 1) 74 1 (l106.tdiv g107)) 60 20 2)
              exact k _ _ (xm_cor_f (by omega) (xm_cor_a rfl (xm_cor_f (by omega) (xm_cor_a rfl (xm_cor_f (by omega) (xm_cor_f (by omega) (xm_cor_f (by omega) (xm_cor_t (xm_cor_f (by omega) xm_cor_r) hc104))))))))
          · intro (c108 : 0 < (u106 * c))
            show post (some (0, 0, 1, 1, 1)) (xa_up (xa_up (xa_up (xa_up (xa_up (xa_up (xa_up M104 60 50 u106) 60 51 l106) 60 20 0) 74 0 ((u106 * c).tdiv g107)) 60 20 1) 74 1 (l106.tdiv g107)) 60 20 2)
            exact k _ _ (xm_cor_f (by omega) (xm_cor_a rfl (xm_cor_f (by omega) (xm_cor_a rfl (xm_cor_f (by omega) (xm_cor_f (by omega) (xm_cor_f (by omega) (xm_cor_t (xm_cor_f (by omega) xm_cor_r) hc104))))))))
        · intro (c105 : v104 < 0)
          show post (some (0, 0, (-5), 0, v104)) M104
          exact k _ _ (xm_cor_t (xm_cor_f (by omega) xm_cor_r) hc104)
      · intro (i3 : ¬ (0 ≤ c ∧ c ≤ 2000))
        show post (some (0, 0, (-1), (-1), (-1))) (xa_up M 60 21 0)
        exact k _ _ (xm_cor_f (by omega) xm_cor_r)
    · intro (i2 : ¬ (0 ≤ b ∧ b < (M 60 11)))
      show post (some (0, 0, (-1), (-1), (-1))) (xa_up M 60 21 0)
      exact k _ _ (xm_cor_f (by omega) xm_cor_r)
  · intro (i1 : ¬ (0 ≤ a ∧ a ≤ 9))
    show post (some (0, 0, (-1), (-1), (-1))) (xa_up M 60 21 0)
    exact k _ _ (xm_cor_f (by omega) xm_cor_r)
theorem ms_off {A : Nat → Nat} {h0 : g_H} {d : Nat} {M : xa_M} {post : Option xa_V → xa_M → Prop} {l1 u1 l2 u2 l3 u3 : Int} {a b c : Int} (hI : xm_Inv M) (k : ∀ (o : Option xa_V) (M1 : xa_M), xm_cor M M1 → post o M1) : xa_C xm_I A h0 (d + 7) 277 [(2, 60, 0, 0, 0), (0, 0, l1, u1, a), (0, 0, l2, u2, b), (0, 0, l3, u3, c)] M post := by
  refine xa_C_arg [(2, 60, 0, 0, 0), (0, 0, (-2147483648), 2147483647, a), (0, 0, (-2147483648), 2147483647, b), (0, 0, (-2147483648), 2147483647, c)] (xa_svR (xa_svI (fun _ _ _ _ => by omega) (xa_svI (fun _ _ _ _ => by omega) (xa_svI (fun _ _ _ _ => by omega) xa_sv0)))) ?_
  refine xa_meth (Q0 := (6, 1, false, 0, 0, 12)) (by decide +kernel) ⟨rfl, rfl⟩ (full := s_c_277) rfl rfl ?_
  intro hM hv Q hgo
  have b11 := xm_f11 hM
  have loop : ∀ (n : Nat) (y : Int) (M1 : xa_M), 0 ≤ y → y ≤ 2001 → xm_cor M M1 → 1 ≤ M1 60 51 → 2001 - y < (n : Int) → Q 57 [(5, (0, 0, 0, 2001, y)), (3, (0, 0, 0, 360, c)), (0, (2, 60, 0, 0, 0))] [] M1 := by
    intro n
    induction n with
    | zero => intro y M1 h1 h2 hc hl hms; omega
    | succ n ih =>
      intro y M1 h1 h2 hc hl hms
      refine hgo.1 51 [57] 57 _ _ _ ?_
      refine And.intro ?_ ?_
      · intro (c1 : 2000 < y)
        show post (some (0, 0, (-6), (-6), (-6))) M1
        exact k _ _ hc
      · intro (c1 : y ≤ 2000)
        show xa_C xm_I A h0 _ 56 [(1, 0, (-4000000000000), 4000000000000, M1 60 50)] M1 _
        refine ct_absb 4000000000000 (by decide) (by decide) (by decide) (fun a2 ea2 => ?_)
        refine And.intro (show 0 < (M1 60 51) by omega) ?_
        refine And.intro ?_ ?_
        · intro (c3 : c < (((a2 * y) * 360) / (M1 60 51)))
          show post (some (0, 0, 0, 2001, y)) M1
          exact k _ _ hc
        · intro (c3 : (((a2 * y) * 360) / (M1 60 51)) ≤ c)
          show xa_C xm_I A h0 _ 56 [(1, 0, (-4000000000000), 4000000000000, M1 60 50)] M1 _
          refine ct_absb 4000000000000 (by decide) (by decide) (by decide) (fun a4 ea4 => ?_)
          refine And.intro (show 0 < (M1 60 51) by omega) ?_
          refine And.intro ?_ ?_
          · intro (c5 : ¬ (((a4 * y) * 360) / (M1 60 51)) = c)
            show Q 57 [(5, (0, 0, 1, 2002, y + 1)), (3, (0, 0, 0, 360, c)), (0, (2, 60, 0, 0, 0))] [] M1
            refine hgo.2.1 57 _ [(5, (0, 0, 0, 2001, y + 1)), (3, (0, 0, 0, 360, c)), (0, (2, 60, 0, 0, 0))] _ _ (xa_subI rfl rfl (fun _ _ _ _ => by omega) (xa_subI rfl rfl (fun _ _ _ _ => by omega) (xa_subR rfl xa_sub0))) ?_
            exact ih (y + 1) M1 (by omega) (by omega) hc hl (by omega)
          · intro (c5 : (((a4 * y) * 360) / (M1 60 51)) = c)
            show xa_C xm_I A h0 _ 56 [(1, 0, (-4000000000000), 4000000000000, M1 60 50)] M1 _
            refine ct_absb 4000000000000 (by decide) (by decide) (by decide) (fun a6 ea6 => ?_)
            refine And.intro (show 0 < (M1 60 51) by omega) ?_
            refine And.intro ?_ ?_
            · intro (c7 : (((a6 * y) * 360) % (M1 60 51)) ≤ 0)
              show Q 57 [(5, (0, 0, 1, 2002, y + 1)), (3, (0, 0, 0, 360, c)), (0, (2, 60, 0, 0, 0))] [] M1
              refine hgo.2.1 57 _ [(5, (0, 0, 0, 2001, y + 1)), (3, (0, 0, 0, 360, c)), (0, (2, 60, 0, 0, 0))] _ _ (xa_subI rfl rfl (fun _ _ _ _ => by omega) (xa_subI rfl rfl (fun _ _ _ _ => by omega) (xa_subR rfl xa_sub0))) ?_
              exact ih (y + 1) M1 (by omega) (by omega) hc hl (by omega)
            · intro (c7 : 0 < (((a6 * y) * 360) % (M1 60 51)))
              show post (some (0, 0, 0, 2001, y)) M1
              exact k _ _ hc
  refine hgo.1 21 [33] 0 _ _ _ ?_
  show xa_C xm_I A h0 _ 215 [(0, 0, (-2147483648), 2147483647, a)] (xa_up M 60 21 0) _
  refine ct_isAxle ?_ ?_
  · intro (i1 : 0 ≤ a ∧ a ≤ 9)
    show xa_C xm_I A h0 _ 239 [(2, 60, 0, 0, 0), (0, 0, (-2147483648), 2147483647, b)] (xa_up M 60 21 0) _
    refine ct_isPeriod ?_ ?_
    · intro (i2 : 0 ≤ b ∧ b < (M 60 11))
      show xa_C xm_I A h0 _ 214 [(0, 0, (-2147483648), 2147483647, c), (0, 0, 0, 0, 0), (0, 0, 360, 360, 360)] (xa_up M 60 21 0) _
      refine ct_in ?_ ?_
      · intro (i3 : 0 ≤ c ∧ c ≤ 360)
        show Q 33 [(0, (2, 60, 0, 0, 0)), (1, (0, 0, (-2147483648), 2147483647, a)), (2, (0, 0, (-2147483648), 2147483647, b)), (3, (0, 0, (-2147483648), 2147483647, c))] [] (xa_up M 60 21 0)
        refine hgo.2.1 33 _ [(0, (2, 60, 0, 0, 0)), (1, (0, 0, 0, 9, a)), (2, (0, 0, 0, 7, b)), (3, (0, 0, 0, 360, c))] _ _ (xa_subR rfl (xa_subI rfl rfl (fun _ _ _ _ => by omega) (xa_subI rfl rfl (fun _ _ _ _ => by omega) (xa_subI rfl rfl (fun _ _ _ _ => by omega) xa_sub0)))) ?_
        refine hgo.1 17 [57] 33 _ _ _ ?_
        show xa_C xm_I A h0 _ 273 [(2, 60, 0, 0, 0), (0, 0, 0, 9, a)] (xa_up M 60 21 0) _
        refine xa_C_mok (ct_fairState (xm_Inv_cor (xm_cor_f (by omega) xm_cor_r) hI) (by omega) (by omega) (fun v104 w104 M104 hc104 hT104 hF104 hw104 hv104 hM104 => ?_))
        refine And.intro ?_ ?_
        · intro (c105 : 0 ≤ v104)
          show xa_C xm_I A h0 _ 276 [(2, 60, 0, 0, 0), (0, 0, 0, 9, a), (0, 0, 0, 7, b)] M104 _
          refine ct_findGap (by omega) (by omega) (by omega) (by omega) (by omega) (by omega) (by rw [xm_corq (xm_cor_t (xm_cor_f (by omega) xm_cor_r) hc104) 71 rfl]; exact (hI.2.2.1 _ (by omega) (by omega)).2) (fun u106 l106 bu106 bl106 => ?_)
          show Q 57 [(5, (0, 0, 0, 0, 0)), (4, (0, 0, (-5), 0, v104)), (0, (2, 60, 0, 0, 0)), (1, (0, 0, 0, 9, a)), (2, (0, 0, 0, 7, b)), (3, (0, 0, 0, 360, c))] [] (xa_up (xa_up M104 60 50 u106) 60 51 l106)
          refine hgo.2.1 57 _ [(5, (0, 0, 0, 2001, 0)), (3, (0, 0, 0, 360, c)), (0, (2, 60, 0, 0, 0))] _ _ (xa_subI rfl rfl (fun _ _ _ _ => by omega) (xa_subI rfl rfl (fun _ _ _ _ => by omega) (xa_subR rfl xa_sub0))) ?_
          exact loop 2002 0 (xa_up (xa_up M104 60 50 u106) 60 51 l106) (by omega) (by omega) (xm_cor_f (by omega) (xm_cor_f (by omega) (xm_cor_t (xm_cor_f (by omega) xm_cor_r) hc104))) (by simp [xa_up]; omega) (by omega)
        · intro (c105 : v104 < 0)
          show post (some (0, 0, (-5), 0, v104)) M104
          exact k _ _ (xm_cor_t (xm_cor_f (by omega) xm_cor_r) hc104)
      · intro (i3 : ¬ (0 ≤ c ∧ c ≤ 360))
        show post (some (0, 0, (-1), (-1), (-1))) (xa_up M 60 21 0)
        exact k _ _ (xm_cor_f (by omega) xm_cor_r)
    · intro (i2 : ¬ (0 ≤ b ∧ b < (M 60 11)))
      show post (some (0, 0, (-1), (-1), (-1))) (xa_up M 60 21 0)
      exact k _ _ (xm_cor_f (by omega) xm_cor_r)
  · intro (i1 : ¬ (0 ≤ a ∧ a ≤ 9))
    show post (some (0, 0, (-1), (-1), (-1))) (xa_up M 60 21 0)
    exact k _ _ (xm_cor_f (by omega) xm_cor_r)
