-- turns: what both sides answer
set_option maxRecDepth 20000
theorem cx_60a {b : Bool} {A : Nat → Nat} {h0 : g_H} {d : Nat} {M : xa_M} {post : Option xa_V → xa_M → Prop} {l1 u1 x1 : Int} (h1 : (0 : Int) ≤ M 48 1) (k : ∀ M1 : xa_M, (∀ (q : Nat) (j : Int), ¬ (q = 48 ∨ q = 49) → M1 q j = M q j) → (0 : Int) ≤ M1 48 1 → post none M1) : xa_C (xl_I b) A h0 (d + 2) 60 [(2, 48, 0, 0, 0), (1, 0, l1, u1, x1)] M post :=
  cx_60_48 h1 (fun _ => k M (fun _ _ _ => rfl) h1) (fun h => k _ (fun q j hq => (xa_up_ne (by omega)).trans (xa_up_ne (by omega))) (by
    rw [xa_up_eq, xa_w32_id (by omega) (by omega)]
    omega))
theorem tw_s3 {N : xa_M} {v w a : Int} {T : xa_M → Int → Prop} (hs : (v = w ∧ ¬ w = 0) ∨ (w = 0 ∧ N 77 a = 0 ∧ v = -2) ∨ (w = 0 ∧ N 77 a = 1 ∧ v = 0)) (hv : ¬ v = 0) : (¬ w = 0 ∧ v = w) ∨ (w = 0 ∧ N 77 a = 0 ∧ v = -2) ∨ (w = 0 ∧ N 77 a = 1 ∧ T N v) := by
  rcases hs with ⟨x, y⟩ | ⟨x, y, z⟩ | ⟨-, -, z⟩
  · exact Or.inl ⟨y, x⟩
  · exact Or.inr (Or.inl ⟨x, y, z⟩)
  · exact absurd z hv
theorem ct_stateOfF {A : Nat → Nat} {h0 : g_H} {d : Nat} {M : xa_M} {post : Option xa_V → xa_M → Prop} {l1 u1 : Int} {a : Int} (hI : xm_Inv M) (ha0 : 0 ≤ a) (ha1 : a ≤ 9) (k : ∀ (v w : Int) (M1 : xa_M), xm_cor M M1 → xm_trn M1 → xm_FT (-1) M w M1 → ((w = 0 ∨ w = -3 ∨ w = -5) ∧ v ≤ 0) → (0 ≤ v → w = 0 ∧ M1 77 a = 1 ∧ 1 ≤ M1 76 a) → ((v = w ∧ ¬ w = 0) ∨ (w = 0 ∧ M1 77 a = 0 ∧ v = -2) ∨ (w = 0 ∧ M1 77 a = 1 ∧ v = 0)) → post (some (0, 0, -5, 0, v)) M1) : xa_C xm_I A h0 (d + 5) 226 [(2, 60, 0, 0, 0), (0, 0, l1, u1, a)] M post := by
  refine xa_C_arg [(2, 60, 0, 0, 0), (0, 0, 0, 9, a)] (xa_svR (xa_svI (fun _ _ _ _ => by omega) xa_sv0)) (xa_C_wk ?_)
  refine xa_meth (Q0 := (3, 1, false, 0, 0, 12)) (by decide +kernel) ⟨rfl, rfl⟩ (full := s_c_226) rfl rfl ?_
  intro hM hv Q hgo
  refine hgo.1 18 [] 0 _ _ _ ?_
  show xa_C xm_I A h0 _ 227 [(2, 60, 0, 0, 0), (0, 0, (-1), (-1), (-1))] M _
  refine xa_C_mok (ct_findTurns (xm_Inv_cor xm_cor_r hI) (fun v1 M1 hv1 hc1 hT1 hF1 hM1 => ?_))
  refine And.intro ?_ ?_
  · intro (c2 : 0 ≤ v1)
    refine And.intro ?_ ?_
    · intro (c3 : (M1 77 a) = 0)
      show xa_wk post (some (0, 0, (-2), (-2), (-2))) M1
      have t := xm_t77 hM1 a ha0 (by omega)
      exact xa_wkI (-2) rfl (fun _ _ => by omega) (k (-2) v1 M1 hc1 hT1 hF1 (by omega) (fun _ => ⟨by omega, by omega, by first | exact hT1 a ha0 (by omega) (by omega) | omega⟩) (by omega))
    · intro (c3 : ¬ (M1 77 a) = 0)
      show xa_wk post (some (0, 0, 0, 0, 0)) M1
      have t := xm_t77 hM1 a ha0 (by omega)
      exact xa_wkI 0 rfl (fun _ _ => by omega) (k 0 v1 M1 hc1 hT1 hF1 (by omega) (fun _ => ⟨by omega, by omega, by first | exact hT1 a ha0 (by omega) (by omega) | omega⟩) (by omega))
  · intro (c2 : v1 < 0)
    show xa_wk post (some (0, 0, (-5), 0, v1)) M1
    have t := xm_t77 hM1 a ha0 (by omega)
    exact xa_wkI v1 rfl (fun _ _ => by omega) (k v1 v1 M1 hc1 hT1 hF1 (by omega) (fun _ => ⟨by omega, by omega, by first | exact hT1 a ha0 (by omega) (by omega) | omega⟩) (by omega))

theorem ms_turnV {A : Nat → Nat} {h0 : g_H} {d : Nat} {M : xa_M} {post : Option xa_V → xa_M → Prop} {l1 u1 : Int} {a : Int} (hI : xm_Inv M) (k : ∀ (o : Option xa_V) (M1 : xa_M), (∃ lo hi n, o = some (0, 0, lo, hi, n) ∧ tw_A M a n (fun _ v => v = 0)) → xm_cor M M1 → post o M1) : xa_C xm_I A h0 (d + 6) 225 [(2, 60, 0, 0, 0), (0, 0, l1, u1, a)] M post := by
  refine xa_C_arg [(2, 60, 0, 0, 0), (0, 0, (-2147483648), 2147483647, a)] (xa_svR (xa_svI (fun _ _ _ _ => by omega) xa_sv0)) ?_
  refine xa_meth (Q0 := (3, 1, false, 0, 0, 12)) (by decide +kernel) ⟨rfl, rfl⟩ (full := s_c_225) rfl rfl ?_
  intro hM hv Q hgo
  refine hgo.1 31 [] 0 _ _ _ ?_
  show xa_C xm_I A h0 _ 215 [(0, 0, (-2147483648), 2147483647, a)] (xa_up M 60 21 0) _
  refine ct_isAxle ?_ ?_
  · intro (i1 : 0 ≤ a ∧ a ≤ 9)
    show xa_C xm_I A h0 _ 226 [(2, 60, 0, 0, 0), (0, 0, (-2147483648), 2147483647, a)] (xa_up M 60 21 0) _
    refine xa_C_mok (ct_stateOfF (xm_Inv_cor (xm_cor_f (by omega) xm_cor_r) hI) (by omega) (by omega) (fun v2 w2 M2 hc2 hT2 hF2 hw2 hv2 hs2 hM2 => ?_))
    refine And.intro ?_ ?_
    · intro (c3 : 0 ≤ v2)
      refine And.intro (show 0 ≤ a ∧ a < 10 by omega) ?_
      refine And.intro (show 0 ≤ a ∧ a < 10 by omega) ?_
      show xa_C xm_I A h0 _ 230 [(2, 60, 0, 0, 0), (1, 0, (-1000000000000000), 1000000000000000, M2 75 a), (1, 0, 0, 1000000000000000, M2 76 a)] (xa_up M2 60 20 0) _
      refine ct_tellPart (n := 0) (by first | rfl | (simp [xa_up]; done)) (by decide) (by decide) (by decide) (by omega) (fun g4 eg4 pg4 qg4 => ?_)
      show post (some (0, 0, 0, 0, 0)) (xa_up (xa_up (xa_up (xa_up (xa_up M2 60 20 0) 74 0 ((M2 75 a).tdiv g4)) 60 20 1) 74 1 ((M2 76 a).tdiv g4)) 60 20 2)
      exact k _ _ ⟨_, _, _, rfl, Or.inr ⟨i1, w2, M2, ⟨_, xm_cor_f (by omega) xm_cor_r, hF2⟩, Or.inr (Or.inr ⟨by omega, by omega, rfl⟩)⟩⟩ (xm_cor_f (by omega) (xm_cor_a rfl (xm_cor_f (by omega) (xm_cor_a rfl (xm_cor_f (by omega) (xm_cor_t (xm_cor_f (by omega) xm_cor_r) hc2))))))
    · intro (c3 : v2 < 0)
      show post (some (0, 0, (-5), 0, v2)) M2
      exact k _ _ ⟨_, _, _, rfl, Or.inr ⟨i1, w2, M2, ⟨_, xm_cor_f (by omega) xm_cor_r, hF2⟩, tw_s3 (T := fun _ v => v = 0) hs2 (by omega)⟩⟩ (xm_cor_t (xm_cor_f (by omega) xm_cor_r) hc2)
  · intro (i1 : ¬ (0 ≤ a ∧ a ≤ 9))
    show post (some (0, 0, (-1), (-1), (-1))) (xa_up M 60 21 0)
    exact k _ _ ⟨_, _, _, rfl, Or.inl ⟨i1, rfl⟩⟩ (xm_cor_f (by omega) xm_cor_r)

theorem cx_45v {b : Bool} {A : Nat → Nat} {h0 : g_H} {d : Nat} {M : xa_M} {post : Option xa_V → xa_M → Prop} {l1 u1 x1 : Int} {N0 : xa_M} (hM0 : tu_M N0) (hC0 : tu_C M N0) (k : ∀ (lo hi v : Int) (M1 : xa_M), tw_A N0 x1 v (fun _ v => v = 0) → (∀ (q : Nat) (j : Int), ¬ (12 ≤ q ∧ q ≤ 14) → ¬ (q = 48 ∨ q = 49) → M1 q j = M q j) → post (some (0, 0, lo, hi, v)) M1) : xa_C (xl_I b) A h0 (d + 8) 45 [(2, 0, 0, 0, 0), (0, 0, l1, u1, x1)] M post := by
  refine xa_C_arg [(2, 0, 0, 0, 0), (0, 0, (-2147483648), 2147483647, x1)] (xa_svR (xa_svI (fun _ _ _ _ => by omega) (xa_sv0))) ?_
  refine xa_meth (Q0 := (3, 1, false, 0, 0, 11)) (by decide +kernel) ⟨rfl, rfl⟩ (full := s_c_45) rfl rfl ?_
  intro hM hv Q hgo
  refine hgo.1 29 [] 0 _ _ _ ?_
  show xa_C (xl_I b) A h0 _ 46 [(2, 0, 0, 0, 0), (0, 0, (-2147483648), 2147483647, x1)] M _
  refine cx_46t hM0 hC0 ?_
  intro v101 M102 (i1 : tu_S N0 x1 v101 M102) (i2 : tu_G M M102)
  refine And.intro ?_ ?_
  · intro (c3 : v101 = 0)
    rw [c3] at i1
    have ax := (tu_S0 i1).1
    show xa_C (xl_I b) A h0 _ 59 [(2, 48, 0, 0, 0)] M102 _
    refine cx_59_48 ?_
    show xa_C (xl_I b) A h0 _ 54 [(2, 12, 0, 0, 0), (0, 0, (-2147483648), 2147483647, x1)] (xa_up M102 48 1 0) _
    refine cx_54_12 (show 0 ≤ x1 ∧ x1 < 10 by omega) ?_
    show xa_C (xl_I b) A h0 _ 60 [(2, 48, 0, 0, 0), (1, 0, (-9223372036854775808), 9223372036854775807, M102 13 x1)] (xa_up M102 48 1 0) _
    refine cx_60a (by show (0 : Int) ≤ 0; omega) ?_
    intro M103 (i4 : ∀ (q : Nat) (j : Int), ¬ (q = 48 ∨ q = 49) → M103 q j = (xa_up M102 48 1 0) q j) (i5 : (0 : Int) ≤ M103 48 1)
    show xa_C (xl_I b) A h0 _ 51 [(2, 12, 0, 0, 0), (0, 0, (-2147483648), 2147483647, x1)] M103 _
    refine cx_51_12 (show 0 ≤ x1 ∧ x1 < 10 by omega) ?_
    show xa_C (xl_I b) A h0 _ 60 [(2, 48, 0, 0, 0), (1, 0, (-9223372036854775808), 9223372036854775807, M103 14 x1)] M103 _
    refine cx_60a (by show (0 : Int) ≤ M103 48 1; omega) ?_
    intro M104 (i6 : ∀ (q : Nat) (j : Int), ¬ (q = 48 ∨ q = 49) → M104 q j = M103 q j) (i7 : (0 : Int) ≤ M104 48 1)
    show post (some (0, 0, 0, 0, 0)) M104
    exact k _ _ _ _ (tw_A_of i1 (fun e _ _ _ => e)) (fun q j h1 h2 => (i6 q j h2).trans ((i4 q j h2).trans ((xa_up_ne (by omega)).trans (i2 q j h1))))
  · intro (c3 : ¬ v101 = 0)
    show post (some (0, 0, (-5), 0, v101)) M102
    exact k _ _ _ _ (tw_A_of i1 (fun e _ _ _ => e)) (fun q j h1 h2 => i2 q j h1)
