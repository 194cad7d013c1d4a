-- way, ready of the model (made by wip/p24/xa/xm17.py)
set_option maxRecDepth 20000
theorem ct_ready {A : Nat → Nat} {h0 : g_H} {d : Nat} {M : xa_M} {post : Option xa_V → xa_M → Prop} {l1 u1 l2 u2 : Int} {a b : Int} (hI : xm_Inv M) (k : ∀ (r : Int) (M1 : xa_M), (r = 0 ∨ r = -1 ∨ r = -2 ∨ r = -4) → xm_cor M M1 → (r = 0 → xm_way M1 ∧ xm_pr M1 (M1 60 32).toNat ≤ 200000 ∧ 0 ≤ b ∧ b < M 60 11) → post (some (0, 0, -4, 0, r)) M1) : xa_C xm_I A h0 (d + 3) 238 [(2, 60, 0, 0, 0), (0, 0, l1, u1, a), (0, 0, l2, u2, b)] M post := by
  refine xa_C_arg [(2, 60, 0, 0, 0), (0, 0, (-2147483648), 2147483647, a), (0, 0, (-2147483648), 2147483647, b)] (xa_svR (xa_svI (fun _ _ _ _ => by omega) (xa_svI (fun _ _ _ _ => by omega) xa_sv0))) (xa_C_wk ?_)
  refine xa_meth (Q0 := (3, 1, false, 0, 0, 12)) (by decide +kernel) ⟨rfl, rfl⟩ (full := s_c_238) rfl rfl ?_
  intro hM hv Q hgo
  refine hgo.1 23 [] 0 _ _ _ ?_
  show xa_C xm_I A h0 _ 214 [(0, 0, (-2147483648), 2147483647, a), (0, 0, 1, 1, 1), (0, 0, 9, 9, 9)] M _
  refine ct_in ?_ ?_
  · intro (i1 : 1 ≤ a ∧ a ≤ 9)
    show xa_C xm_I A h0 _ 239 [(2, 60, 0, 0, 0), (0, 0, (-2147483648), 2147483647, b)] M _
    refine ct_isPeriod ?_ ?_
    · intro (i2 : 0 ≤ b ∧ b < (M 60 11))
      show xa_C xm_I A h0 _ 236 [(2, 60, 0, 0, 0), (0, 0, (-2147483648), 2147483647, a)] M _
      refine xa_C_mok (ct_findWay (xm_Inv_cor xm_cor_r hI) (by omega) (by omega) (fun v3 M3 hv3 hc3 hw3 hM3 => ?_))
      refine And.intro ?_ ?_
      · intro (c4 : ¬ v3 = 0)
        show xa_C xm_I A h0 _ 240 [(2, 60, 0, 0, 0)] M3 _
        refine ct_areTooMany (xm_Inv_cor (xm_cor_t xm_cor_r hc3) hI) (hw3 (by omega)) (fun r5 zr5 yr5 => ?_)
        refine And.intro ?_ ?_
        · intro (c6 : r5 = 0)
          show xa_wk post (some (0, 0, 0, 0, 0)) M3
          exact xa_wkI 0 rfl (fun _ _ => by omega) (k 0 _ (by omega) (xm_cor_t xm_cor_r hc3) (fun e => by first | (exfalso; omega) | exact ⟨hw3 (by omega), yr5 (by omega), by omega, by omega⟩))
        · intro (c6 : ¬ r5 = 0)
          show xa_wk post (some (0, 0, (-4), (-4), (-4))) M3
          exact xa_wkI (-4) rfl (fun _ _ => by omega) (k (-4) _ (by omega) (xm_cor_t xm_cor_r hc3) (fun e => by first | (exfalso; omega) | exact ⟨hw3 (by omega), yr5 (by omega), by omega, by omega⟩))
      · intro (c4 : v3 = 0)
        show xa_wk post (some (0, 0, (-2), (-2), (-2))) M3
        exact xa_wkI (-2) rfl (fun _ _ => by omega) (k (-2) _ (by omega) (xm_cor_t xm_cor_r hc3) (fun e => by first | (exfalso; omega) | exact ⟨hw3 (by omega), yr5 (by omega), by omega, by omega⟩))
    · intro (i2 : ¬ (0 ≤ b ∧ b < (M 60 11)))
      show xa_wk post (some (0, 0, (-1), (-1), (-1))) M
      exact xa_wkI (-1) rfl (fun _ _ => by omega) (k (-1) _ (by omega) xm_cor_r (fun e => by first | (exfalso; omega) | exact ⟨hw0 (by omega), yr5 (by omega), by omega, by omega⟩))
  · intro (i1 : ¬ (1 ≤ a ∧ a ≤ 9))
    show xa_wk post (some (0, 0, (-1), (-1), (-1))) M
    exact xa_wkI (-1) rfl (fun _ _ => by omega) (k (-1) _ (by omega) xm_cor_r (fun e => by first | (exfalso; omega) | exact ⟨hw0 (by omega), yr5 (by omega), by omega, by omega⟩))
theorem ms_way {A : Nat → Nat} {h0 : g_H} {d : Nat} {M : xa_M} {post : Option xa_V → xa_M → Prop} {l1 u1 : Int} {a : Int} (hI : xm_Inv M) (k : ∀ (o : Option xa_V) (M1 : xa_M), xm_cor M M1 → post o M1) : xa_C xm_I A h0 (d + 4) 235 [(2, 60, 0, 0, 0), (0, 0, l1, u1, a)] M post := by
  refine xa_C_arg [(2, 60, 0, 0, 0), (0, 0, (-2147483648), 2147483647, a)] (xa_svR (xa_svI (fun _ _ _ _ => by omega) xa_sv0)) ?_
  refine xa_meth (Q0 := (3, 1, false, 0, 0, 12)) (by decide +kernel) ⟨rfl, rfl⟩ (full := s_c_235) rfl rfl ?_
  intro hM hv Q hgo
  have loop0 : ∀ (n : Nat) (x2 : Int) (M1 : xa_M), 0 ≤ x2 ∧ x2 ≤ 10 → xm_cor M M1 → M1 60 20 ≤ x2 → 10 - x2 < (n : Int) → Q 35 [(2, (0, 0, 0, 10, x2)), (0, (2, 60, 0, 0, 0))] [] M1 := by
    intro n
    induction n with
    | zero => intro x2 M1 b2 hc h20 hms; omega
    | succ n ih0 =>
      intro x2 M1 b2 hc h20 hms0
      refine hgo.2.2 _ _ _ _ (fun hM1 _ => ?_)
      have b20 := xm_f20 hM1
      have b29 := xm_f29 hM1
      refine hgo.1 18 [35] 35 _ _ _ ?_
      refine And.intro ?_ ?_
      · intro (c1 : (M1 60 29) ≤ x2)
        show post (some (0, 0, 0, 10, M1 60 29)) M1
        exact k _ _ hc
      · intro (c1 : x2 < (M1 60 29))
        refine And.intro (show 0 ≤ x2 ∧ x2 < 10 by omega) ?_
        show xa_C xm_I A h0 _ 231 [(2, 60, 0, 0, 0), (1, 0, 0, 15, M1 79 x2)] M1 _
        refine ct_tell (n := M1 60 20) (by first | rfl | (simp [xa_up]; done) | omega) (by omega) (by omega) ?_
        show Q 35 [(2, (0, 0, 1, 11, x2 + 1)), (0, (2, 60, 0, 0, 0))] [] (xa_up (xa_up M1 74 (M1 60 20) (M1 79 x2)) 60 20 ((M1 60 20) + 1))
        refine hgo.2.1 35 _ [(2, (0, 0, 0, 10, x2 + 1)), (0, (2, 60, 0, 0, 0))] _ _ (xa_subI rfl rfl (fun _ _ _ _ => by omega) (xa_subR rfl xa_sub0)) ?_
        exact ih0 (x2 + 1) (xa_up (xa_up M1 74 (M1 60 20) (M1 79 x2)) 60 20 ((M1 60 20) + 1)) (by omega) (xm_cor_f (by omega) (xm_cor_a rfl hc)) (by first | omega | (simp [xa_up]; done) | (simp [xa_up]; omega)) (by omega)
  refine hgo.1 22 [35] 0 _ _ _ ?_
  show xa_C xm_I A h0 _ 214 [(0, 0, (-2147483648), 2147483647, a), (0, 0, 1, 1, 1), (0, 0, 9, 9, 9)] (xa_up M 60 21 0) _
  refine ct_in ?_ ?_
  · intro (i1 : 1 ≤ a ∧ a ≤ 9)
    show xa_C xm_I A h0 _ 236 [(2, 60, 0, 0, 0), (0, 0, (-2147483648), 2147483647, a)] (xa_up M 60 21 0) _
    refine xa_C_mok (ct_findWay (xm_Inv_cor (xm_cor_f (by omega) xm_cor_r) hI) (by omega) (by omega) (fun v2 M2 hv2 hc2 hw2 hM2 => ?_))
    refine And.intro ?_ ?_
    · intro (c3 : ¬ v2 = 0)
      show Q 35 [(2, (0, 0, 0, 0, 0)), (0, (2, 60, 0, 0, 0)), (1, (0, 0, (-2147483648), 2147483647, a))] [] (xa_up M2 60 20 0)
      refine hgo.2.1 35 _ [(2, (0, 0, 0, 10, 0)), (0, (2, 60, 0, 0, 0))] _ _ (xa_subI rfl rfl (fun _ _ _ _ => by omega) (xa_subR rfl xa_sub0)) ?_
      exact loop0 11 0 (xa_up M2 60 20 0) (by omega) (xm_cor_f (by omega) (xm_cor_t (xm_cor_f (by omega) xm_cor_r) hc2)) (by first | omega | (simp [xa_up]; done) | (simp [xa_up]; omega)) (by omega)
    · intro (c3 : v2 = 0)
      show post (some (0, 0, (-2), (-2), (-2))) M2
      exact k _ _ (xm_cor_t (xm_cor_f (by omega) xm_cor_r) hc2)
  · intro (i1 : ¬ (1 ≤ a ∧ a ≤ 9))
    show post (some (0, 0, (-1), (-1), (-1))) (xa_up M 60 21 0)
    exact k _ _ (xm_cor_f (by omega) xm_cor_r)
