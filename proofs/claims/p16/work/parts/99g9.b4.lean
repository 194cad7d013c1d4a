-- sign, end
set_option maxRecDepth 20000
theorem cx_18_31 {b : Bool} {A : Nat → Nat} {h0 : g_H} {d : Nat} {M : xa_M} {post : Option xa_V → xa_M → Prop} {l1 u1 l2 u2 : Int} {i v : Int} (h1 : 0 ≤ i ∧ i < 80) (k1 : post none (xa_up M 31 i v)) : xa_C (xl_I b) A h0 (d + 1) 18 [(2, 31, 0, 0, 0), (0, 0, l1, u1, i), (0, 0, l2, u2, v)] M post := by
  refine xa_C_arg [(2, 31, 0, 0, 0), (0, 0, (-2147483648), 2147483647, i), (0, 0, (-2147483648), 2147483647, v)] (xa_svR (xa_svI (fun _ _ _ _ => by omega) (xa_svI (fun _ _ _ _ => by omega) xa_sv0))) ?_
  refine xa_meth (Q0 := (3, 0, false, 0, 0, 11)) (by decide +kernel) ⟨rfl, rfl⟩ (full := s_c_18) rfl rfl ?_
  intro hM hv Q hgo
  refine hgo.1 15 [] 0 _ _ _ ?_
  refine And.intro ?_ ?_
  · intro (c1 : i < 0)
    show post none M
    exact absurd h1 (by omega)
  · intro (c1 : 0 ≤ i)
    refine And.intro ?_ ?_
    · intro (c2 : 80 ≤ i)
      show post none M
      exact absurd h1 (by omega)
    · intro (c2 : i < 80)
      refine And.intro (show 0 ≤ i ∧ i < 80 by omega) ?_
      show post none (xa_up M 31 i v)
      exact k1
theorem cx_111f {b : Bool} {A : Nat → Nat} {h0 : g_H} {d : Nat} {M : xa_M} {post : Option xa_V → xa_M → Prop} {l1 u1 x1 : Int} (hz : 0 ≤ M 30 1 ∧ M 30 1 ≤ 80) (k : ∀ (n : Int) (M1 : xa_M), lt_P M 31 30 1 (M 30 1) (fun a => xa_ib 3 (xa_ib 7 x1 a) 255) n M1 → post (some (0, 0, (-2147483648), 2147483647, n)) M1) : xa_C (xl_I b) A h0 (d + 2) 111 [(2, 30, 0, 0, 0), (0, 0, l1, u1, x1)] M post := by
  refine xa_C_wk ?_
  refine xa_C_arg [(2, 30, 0, 0, 0), (0, 0, (-2147483648), 2147483647, x1)] (xa_svR (xa_svI (fun _ _ _ _ => by omega) xa_sv0)) ?_
  refine xa_meth (Q0 := (3, 1, false, 0, 0, 8)) (by decide +kernel) ⟨rfl, rfl⟩ (full := s_c_111) rfl rfl ?_
  intro hM hv Q hgo
  have w91 : xa_w32 ((M 30 1) + 4) = (M 30 1) + 4 := xa_w32_id (by omega) (by omega)
  refine hgo.1 97 [] 0 _ _ _ ?_
  refine And.intro ?_ ?_
  · intro (c1 : (xa_w32 ((M 30 1) + 4)) ≤ 80)
    have w91 : xa_w32 ((M 30 1) + 4) = (M 30 1) + 4 := xa_w32_id (by omega) (by omega)
    have w92 : xa_w32 ((M 30 1) + 1) = M 30 1 + 1 := by
      exact (xa_w32_id (by omega) (by omega)).trans (by omega)
    have w93 : xa_w32 ((xa_w32 ((M 30 1) + 1)) + 1) = M 30 1 + 2 := by
      rw [w92]
      exact (xa_w32_id (by omega) (by omega)).trans (by omega)
    have w94 : xa_w32 ((xa_w32 ((xa_w32 ((M 30 1) + 1)) + 1)) + 1) = M 30 1 + 3 := by
      rw [w93]
      exact (xa_w32_id (by omega) (by omega)).trans (by omega)
    have w95 : xa_w32 ((xa_w32 ((xa_w32 ((xa_w32 ((M 30 1) + 1)) + 1)) + 1)) + 1) = M 30 1 + 4 := by
      rw [w94]
      exact (xa_w32_id (by omega) (by omega)).trans (by omega)
    show xa_C (xl_I b) A h0 _ 18 [(2, 31, 0, 0, 0), (0, 0, (-2147483648), 2147483647, M 30 1), (0, 0, (-2147483648), 2147483647, xa_ib 3 (xa_ib 7 x1 24) 255)] M _
    refine cx_18_31 (show 0 ≤ (M 30 1) ∧ (M 30 1) < 80 by omega) ?_
    show xa_C (xl_I b) A h0 _ 18 [(2, 31, 0, 0, 0), (0, 0, (-2147483648), 2147483647, xa_w32 ((M 30 1) + 1)), (0, 0, (-2147483648), 2147483647, xa_ib 3 (xa_ib 7 x1 (24 + (-8))) 255)] (xa_up (xa_up M 31 (M 30 1) (xa_ib 3 (xa_ib 7 x1 24) 255)) 30 1 (xa_w32 ((M 30 1) + 1))) _
    refine cx_18_31 (show 0 ≤ (xa_w32 ((M 30 1) + 1)) ∧ (xa_w32 ((M 30 1) + 1)) < 80 by omega) ?_
    show xa_C (xl_I b) A h0 _ 18 [(2, 31, 0, 0, 0), (0, 0, (-2147483648), 2147483647, xa_w32 ((xa_w32 ((M 30 1) + 1)) + 1)), (0, 0, (-2147483648), 2147483647, xa_ib 3 (xa_ib 7 x1 ((24 + (-8)) + (-8))) 255)] (xa_up (xa_up (xa_up (xa_up M 31 (M 30 1) (xa_ib 3 (xa_ib 7 x1 24) 255)) 30 1 (xa_w32 ((M 30 1) + 1))) 31 (xa_w32 ((M 30 1) + 1)) (xa_ib 3 (xa_ib 7 x1 (24 + (-8))) 255)) 30 1 (xa_w32 ((xa_w32 ((M 30 1) + 1)) + 1))) _
    refine cx_18_31 (show 0 ≤ (xa_w32 ((xa_w32 ((M 30 1) + 1)) + 1)) ∧ (xa_w32 ((xa_w32 ((M 30 1) + 1)) + 1)) < 80 by omega) ?_
    show xa_C (xl_I b) A h0 _ 18 [(2, 31, 0, 0, 0), (0, 0, (-2147483648), 2147483647, xa_w32 ((xa_w32 ((xa_w32 ((M 30 1) + 1)) + 1)) + 1)), (0, 0, (-2147483648), 2147483647, xa_ib 3 (xa_ib 7 x1 (((24 + (-8)) + (-8)) + (-8))) 255)] (xa_up (xa_up (xa_up (xa_up (xa_up (xa_up M 31 (M 30 1) (xa_ib 3 (xa_ib 7 x1 24) 255)) 30 1 (xa_w32 ((M 30 1) + 1))) 31 (xa_w32 ((M 30 1) + 1)) (xa_ib 3 (xa_ib 7 x1 (24 + (-8))) 255)) 30 1 (xa_w32 ((xa_w32 ((M 30 1) + 1)) + 1))) 31 (xa_w32 ((xa_w32 ((M 30 1) + 1)) + 1)) (xa_ib 3 (xa_ib 7 x1 ((24 + (-8)) + (-8))) 255)) 30 1 (xa_w32 ((xa_w32 ((xa_w32 ((M 30 1) + 1)) + 1)) + 1))) _
    refine cx_18_31 (show 0 ≤ (xa_w32 ((xa_w32 ((xa_w32 ((M 30 1) + 1)) + 1)) + 1)) ∧ (xa_w32 ((xa_w32 ((xa_w32 ((M 30 1) + 1)) + 1)) + 1)) < 80 by omega) ?_
    show xa_wk post (some (0, 0, (-2147483648), 2147483647, xa_w32 ((xa_w32 ((xa_w32 ((xa_w32 ((M 30 1) + 1)) + 1)) + 1)) + 1))) (xa_up (xa_up (xa_up (xa_up (xa_up (xa_up (xa_up (xa_up M 31 (M 30 1) (xa_ib 3 (xa_ib 7 x1 24) 255)) 30 1 (xa_w32 ((M 30 1) + 1))) 31 (xa_w32 ((M 30 1) + 1)) (xa_ib 3 (xa_ib 7 x1 (24 + (-8))) 255)) 30 1 (xa_w32 ((xa_w32 ((M 30 1) + 1)) + 1))) 31 (xa_w32 ((xa_w32 ((M 30 1) + 1)) + 1)) (xa_ib 3 (xa_ib 7 x1 ((24 + (-8)) + (-8))) 255)) 30 1 (xa_w32 ((xa_w32 ((xa_w32 ((M 30 1) + 1)) + 1)) + 1))) 31 (xa_w32 ((xa_w32 ((xa_w32 ((M 30 1) + 1)) + 1)) + 1)) (xa_ib 3 (xa_ib 7 x1 (((24 + (-8)) + (-8)) + (-8))) 255)) 30 1 (xa_w32 ((xa_w32 ((xa_w32 ((xa_w32 ((M 30 1) + 1)) + 1)) + 1)) + 1)))
    have w1 : xa_w32 ((M 30 1) + 1) = (M 30 1) + 1 := xa_w32_id (by omega) (by omega)
    have w2 : xa_w32 ((((M 30 1) + 1)) + 1) = (((M 30 1) + 1)) + 1 := xa_w32_id (by omega) (by omega)
    have w3 : xa_w32 ((((((M 30 1) + 1)) + 1)) + 1) = (((((M 30 1) + 1)) + 1)) + 1 := xa_w32_id (by omega) (by omega)
    have w4 : xa_w32 ((((((((M 30 1) + 1)) + 1)) + 1)) + 1) = (((((((M 30 1) + 1)) + 1)) + 1)) + 1 := xa_w32_id (by omega) (by omega)
    simp only [w1, w2, w3, w4]
    refine xa_wkI (M 30 1 + 4) (by omega) (fun _ _ => by omega) (k (M 30 1 + 4) _ (Or.inr ⟨by omega, rfl, ?_, ?_, ?_, ?_, ?_, fun i hi => ?_, fun q j h1 h2 h3 => ?_⟩))
    · exact (xa_up_eq).trans (by omega)
    · exact (xa_up_ne (by omega)).trans ((xa_up_ne (by omega)).trans ((xa_up_ne (by omega)).trans ((xa_up_ne (by omega)).trans ((xa_up_ne (by omega)).trans ((xa_up_ne (by omega)).trans ((xa_up_ne (by omega)).trans (xa_up_eq)))))))
    · rw [show M 30 1 + 1 = ((M 30 1) + 1) by omega]
      exact (xa_up_ne (by omega)).trans ((xa_up_ne (by omega)).trans ((xa_up_ne (by omega)).trans ((xa_up_ne (by omega)).trans ((xa_up_ne (by omega)).trans (xa_up_eq)))))
    · rw [show M 30 1 + 2 = ((((M 30 1) + 1)) + 1) by omega]
      exact (xa_up_ne (by omega)).trans ((xa_up_ne (by omega)).trans ((xa_up_ne (by omega)).trans (xa_up_eq)))
    · rw [show M 30 1 + 3 = ((((((M 30 1) + 1)) + 1)) + 1) by omega]
      exact (xa_up_ne (by omega)).trans (xa_up_eq)
    · exact (xa_up_ne (by omega)).trans ((xa_up_ne (by omega)).trans ((xa_up_ne (by omega)).trans ((xa_up_ne (by omega)).trans ((xa_up_ne (by omega)).trans ((xa_up_ne (by omega)).trans ((xa_up_ne (by omega)).trans (xa_up_ne (by omega))))))))
    · exact (xa_up_ne (by omega)).trans ((xa_up_ne (by omega)).trans ((xa_up_ne (by omega)).trans ((xa_up_ne (by omega)).trans ((xa_up_ne (by omega)).trans ((xa_up_ne (by omega)).trans ((xa_up_ne (by omega)).trans (xa_up_ne (by omega))))))))
  · intro (c1 : 80 < (xa_w32 ((M 30 1) + 4)))
    show xa_wk post (some (0, 0, (-1), (-1), (-1))) M
    exact xa_wkI (-1) rfl (fun _ _ => by omega) (k (-1) _ (Or.inl ⟨by omega, rfl, fun q j h1 => rfl⟩))
theorem cw_110 {b : Bool} {A : Nat → Nat} {h0 : g_H} {d : Nat} {M : xa_M} {post : Option xa_V → xa_M → Prop} {l1 u1 x1 : Int} (hz : 0 ≤ M 30 1 ∧ M 30 1 ≤ 80) (k : ∀ (n : Int) (M1 : xa_M), lt_P M 31 30 1 (M 30 1) (fun a => xa_ib 3 (xa_ib 7 x1 a) 255) n M1 → post (some (0, 0, (-2147483648), 2147483647, n)) M1) : xa_C (xl_I b) A h0 (d + 3) 110 [(2, 0, 0, 0, 0), (0, 0, l1, u1, x1)] M post := by
  refine xa_C_arg [(2, 0, 0, 0, 0), (0, 0, (-2147483648), 2147483647, x1)] (xa_svR (xa_svI (fun _ _ _ _ => by omega) xa_sv0)) ?_
  refine xa_meth (Q0 := (2, 1, false, 0, 0, 11)) (by decide +kernel) ⟨rfl, rfl⟩ (full := s_c_110) rfl rfl ?_
  intro hM hv Q hgo
  refine hgo.1 9 [] 0 _ _ _ ?_
  show xa_C (xl_I b) A h0 _ 111 [(2, 30, 0, 0, 0), (0, 0, (-2147483648), 2147483647, x1)] M _
  refine cx_111f (by omega) ?_
  intro n107 M108 (i1 : lt_P M 31 30 1 (M 30 1) (fun a => xa_ib 3 (xa_ib 7 x1 a) 255) n107 M108)
  show post (some (0, 0, (-2147483648), 2147483647, n107)) M108
  exact k _ _ i1
theorem ms_signF {A : Nat → Nat} {h0 : g_H} {d : Nat} {M : xa_M} {post : Option xa_V → xa_M → Prop} {l1 u1 x1 : Int} (hI : xm_Inv M) (k : ∀ (n : Int) (M1 : xa_M), lt_P M 73 60 18 (M 60 18) (fun a => xa_i8 (xa_ib 7 x1 a)) n M1 → post (some (0, 0, (-1), 80, n)) M1) : xa_C xm_I A h0 (d + 1) 250 [(2, 60, 0, 0, 0), (0, 0, l1, u1, x1)] M post := by
  refine xa_C_wk ?_
  refine xa_C_arg [(2, 60, 0, 0, 0), (0, 0, (-2147483648), 2147483647, x1)] (xa_svR (xa_svI (fun _ _ _ _ => by omega) xa_sv0)) ?_
  refine xa_meth (Q0 := (3, 1, false, 0, 0, 12)) (by decide +kernel) ⟨rfl, rfl⟩ (full := s_c_250) rfl rfl ?_
  intro hM hv Q hgo
  have b18 := xm_f18 hM
  refine hgo.1 100 [] 0 _ _ _ ?_
  refine And.intro ?_ ?_
  · intro (c1 : ((M 60 18) + 4) ≤ 80)
    refine And.intro (show 0 ≤ ((M 60 18) + 1) ∧ ((M 60 18) + 1) ≤ 80 by omega) ?_
    refine And.intro (show 0 ≤ (M 60 18) ∧ (M 60 18) < 80 by omega) ?_
    refine And.intro (show 0 ≤ (((M 60 18) + 1) + 1) ∧ (((M 60 18) + 1) + 1) ≤ 80 by omega) ?_
    refine And.intro (show 0 ≤ ((M 60 18) + 1) ∧ ((M 60 18) + 1) < 80 by omega) ?_
    refine And.intro (show 0 ≤ ((((M 60 18) + 1) + 1) + 1) ∧ ((((M 60 18) + 1) + 1) + 1) ≤ 80 by omega) ?_
    refine And.intro (show 0 ≤ (((M 60 18) + 1) + 1) ∧ (((M 60 18) + 1) + 1) < 80 by omega) ?_
    refine And.intro (show 0 ≤ (((((M 60 18) + 1) + 1) + 1) + 1) ∧ (((((M 60 18) + 1) + 1) + 1) + 1) ≤ 80 by omega) ?_
    refine And.intro (show 0 ≤ ((((M 60 18) + 1) + 1) + 1) ∧ ((((M 60 18) + 1) + 1) + 1) < 80 by omega) ?_
    show xa_wk post (some (0, 0, 0, 80, ((((M 60 18) + 1) + 1) + 1) + 1)) (xa_up (xa_up (xa_up (xa_up (xa_up (xa_up (xa_up (xa_up (xa_up M 60 21 0) 60 18 ((M 60 18) + 1)) 73 (M 60 18) (xa_i8 (xa_ib 7 x1 (8 * 3)))) 60 18 (((M 60 18) + 1) + 1)) 73 ((M 60 18) + 1) (xa_i8 (xa_ib 7 x1 (8 * (3 + (-1)))))) 60 18 ((((M 60 18) + 1) + 1) + 1)) 73 (((M 60 18) + 1) + 1) (xa_i8 (xa_ib 7 x1 (8 * ((3 + (-1)) + (-1)))))) 60 18 (((((M 60 18) + 1) + 1) + 1) + 1)) 73 ((((M 60 18) + 1) + 1) + 1) (xa_i8 (xa_ib 7 x1 (8 * (((3 + (-1)) + (-1)) + (-1))))))
    refine xa_wkI (M 60 18 + 4) (by omega) (fun _ _ => by omega) (k (M 60 18 + 4) _ (Or.inr ⟨by omega, rfl, ?_, ?_, ?_, ?_, ?_, fun i hi => ?_, fun q j h1 h2 h3 => ?_⟩))
    · exact ((xa_up_ne (by omega)).trans (xa_up_eq)).trans (by omega)
    · exact (xa_up_ne (by omega)).trans ((xa_up_ne (by omega)).trans ((xa_up_ne (by omega)).trans ((xa_up_ne (by omega)).trans ((xa_up_ne (by omega)).trans ((xa_up_ne (by omega)).trans (xa_up_eq))))))
    · rw [show M 60 18 + 1 = (M 60 18) + 1 by omega]
      exact (xa_up_ne (by omega)).trans ((xa_up_ne (by omega)).trans ((xa_up_ne (by omega)).trans ((xa_up_ne (by omega)).trans (xa_up_eq))))
    · rw [show M 60 18 + 2 = ((M 60 18) + 1) + 1 by omega]
      exact (xa_up_ne (by omega)).trans ((xa_up_ne (by omega)).trans (xa_up_eq))
    · rw [show M 60 18 + 3 = (((M 60 18) + 1) + 1) + 1 by omega]
      exact xa_up_eq
    · exact (xa_up_ne (by omega)).trans ((xa_up_ne (by omega)).trans ((xa_up_ne (by omega)).trans ((xa_up_ne (by omega)).trans ((xa_up_ne (by omega)).trans ((xa_up_ne (by omega)).trans ((xa_up_ne (by omega)).trans ((xa_up_ne (by omega)).trans (xa_up_ne (by omega)))))))))
    · exact (xa_up_ne (by omega)).trans ((xa_up_ne (by omega)).trans ((xa_up_ne (by omega)).trans ((xa_up_ne (by omega)).trans ((xa_up_ne (by omega)).trans ((xa_up_ne (by omega)).trans ((xa_up_ne (by omega)).trans ((xa_up_ne (by omega)).trans (xa_up_ne (by omega)))))))))
  · intro (c1 : 80 < ((M 60 18) + 4))
    show xa_wk post (some (0, 0, (-1), (-1), (-1))) (xa_up M 60 21 0)
    exact xa_wkI (-1) rfl (fun _ _ => by omega) (k (-1) _ (Or.inl ⟨by omega, rfl, fun q j h1 => xa_up_ne (by omega)⟩))
theorem cx_113f {b : Bool} {A : Nat → Nat} {h0 : g_H} {d : Nat} {M : xa_M} {post : Option xa_V → xa_M → Prop} {l1 u1 x1 : Int} (k : ∀ (n : Int) (M1 : xa_M), lt_E M 30 1 (M 30 1) x1 n M1 → post (some (0, 0, 0, 1, n)) M1) : xa_C (xl_I b) A h0 (d + 1) 113 [(2, 30, 0, 0, 0), (0, 0, l1, u1, x1)] M post := by
  refine xa_C_wk ?_
  refine xa_C_arg [(2, 30, 0, 0, 0), (0, 0, (-2147483648), 2147483647, x1)] (xa_svR (xa_svI (fun _ _ _ _ => by omega) xa_sv0)) ?_
  refine xa_meth (Q0 := (2, 2, false, 0, 0, 8)) (by decide +kernel) ⟨rfl, rfl⟩ (full := s_c_113) rfl rfl ?_
  intro hM hv Q hgo
  refine hgo.1 15 [] 0 _ _ _ ?_
  refine And.intro ?_ ?_
  · intro (c1 : x1 < 0)
    show xa_wk post (some (0, 0, 0, 0, 0)) M
    exact xa_wkI 0 rfl (fun _ _ => by omega) (k 0 _ (Or.inr ⟨by omega, rfl, fun q j h1 => rfl⟩))
  · intro (c1 : 0 ≤ x1)
    refine And.intro ?_ ?_
    · intro (c2 : x1 ≤ (M 30 1))
      show xa_wk post (some (0, 0, 1, 1, 1)) (xa_up M 30 1 x1)
      exact xa_wkI 1 rfl (fun _ _ => by omega) (k 1 _ (Or.inl ⟨by omega, rfl, xa_up_eq, fun q j h1 h2 => xa_up_ne (by omega)⟩))
    · intro (c2 : (M 30 1) < x1)
      show xa_wk post (some (0, 0, 0, 0, 0)) M
      exact xa_wkI 0 rfl (fun _ _ => by omega) (k 0 _ (Or.inr ⟨by omega, rfl, fun q j h1 => rfl⟩))
theorem cw_112 {b : Bool} {A : Nat → Nat} {h0 : g_H} {d : Nat} {M : xa_M} {post : Option xa_V → xa_M → Prop} {l1 u1 x1 : Int} (k : ∀ (n : Int) (M1 : xa_M), lt_E M 30 1 (M 30 1) x1 n M1 → post (some (0, 0, 0, 1, n)) M1) : xa_C (xl_I b) A h0 (d + 2) 112 [(2, 0, 0, 0, 0), (0, 0, l1, u1, x1)] M post := by
  refine xa_C_arg [(2, 0, 0, 0, 0), (0, 0, (-2147483648), 2147483647, x1)] (xa_svR (xa_svI (fun _ _ _ _ => by omega) xa_sv0)) ?_
  refine xa_meth (Q0 := (2, 2, false, 0, 0, 11)) (by decide +kernel) ⟨rfl, rfl⟩ (full := s_c_112) rfl rfl ?_
  intro hM hv Q hgo
  refine hgo.1 9 [] 0 _ _ _ ?_
  show xa_C (xl_I b) A h0 _ 113 [(2, 30, 0, 0, 0), (0, 0, (-2147483648), 2147483647, x1)] M _
  refine cx_113f ?_
  intro n109 M110 (i1 : lt_E M 30 1 (M 30 1) x1 n109 M110)
  show post (some (0, 0, 0, 1, n109)) M110
  exact k _ _ i1
theorem ms_endF {A : Nat → Nat} {h0 : g_H} {d : Nat} {M : xa_M} {post : Option xa_V → xa_M → Prop} {l1 u1 x1 : Int} (hI : xm_Inv M) (k : ∀ (n : Int) (M1 : xa_M), lt_E M 60 18 (M 60 18) x1 n M1 → post (some (0, 0, 0, 1, n)) M1) : xa_C xm_I A h0 (d + 2) 251 [(2, 60, 0, 0, 0), (0, 0, l1, u1, x1)] M post := by
  refine xa_C_wk ?_
  refine xa_C_arg [(2, 60, 0, 0, 0), (0, 0, (-2147483648), 2147483647, x1)] (xa_svR (xa_svI (fun _ _ _ _ => by omega) xa_sv0)) ?_
  refine xa_meth (Q0 := (2, 2, false, 0, 0, 12)) (by decide +kernel) ⟨rfl, rfl⟩ (full := s_c_251) rfl rfl ?_
  intro hM hv Q hgo
  have b18 := xm_f18 hM
  refine hgo.1 18 [] 0 _ _ _ ?_
  show xa_C xm_I A h0 _ 214 [(0, 0, (-2147483648), 2147483647, x1), (0, 0, 0, 0, 0), (0, 0, 0, 80, M 60 18)] (xa_up M 60 21 0) _
  refine ct_in ?_ ?_
  · intro (i1 : 0 ≤ x1 ∧ x1 ≤ (M 60 18))
    refine And.intro (show 0 ≤ x1 ∧ x1 ≤ 80 by omega) ?_
    show xa_wk post (some (0, 0, 1, 1, 1)) (xa_up (xa_up M 60 21 0) 60 18 x1)
    exact xa_wkI 1 rfl (fun _ _ => by omega) (k 1 _ (Or.inl ⟨by omega, rfl, xa_up_eq, fun q j h1 h2 => (xa_up_ne (by omega)).trans (xa_up_ne (by omega))⟩))
  · intro (i2 : ¬ (0 ≤ x1 ∧ x1 ≤ (M 60 18)))
    show xa_wk post (some (0, 0, 0, 0, 0)) (xa_up M 60 21 0)
    exact xa_wkI 0 rfl (fun _ _ => by omega) (k 0 _ (Or.inr ⟨by omega, rfl, fun q j h1 => xa_up_ne (by omega)⟩))
