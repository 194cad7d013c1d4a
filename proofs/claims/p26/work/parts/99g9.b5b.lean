-- meets
set_option maxRecDepth 20000
theorem cx_64_50 {b : Bool} {A : Nat → Nat} {h0 : g_H} {d : Nat} {M : xa_M} {post : Option xa_V → xa_M → Prop} {l1 u1 : Int} {x1 : Int} (h1 : 0 ≤ x1 ∧ x1 < 8) (k1 : post (some (1, 0, (-2147483648), 2147483647, M 52 x1)) M) : xa_C (xl_I b) A h0 (d + 2) 64 [(2, 50, 0, 0, 0), (0, 0, l1, u1, x1)] M post := by
  refine xa_C_arg [(2, 50, 0, 0, 0), (0, 0, (-2147483648), 2147483647, x1)] (xa_svR (xa_svI (fun _ _ _ _ => by omega) (xa_sv0))) ?_
  refine xa_meth (Q0 := (2, 3, false, 0, 0, 0)) (by decide +kernel) ⟨rfl, rfl⟩ (full := s_c_64) rfl rfl ?_
  intro hM hv Q hgo
  refine hgo.1 10 [] 0 _ _ _ ?_
  show xa_C (xl_I b) A h0 _ 23 [(2, 52, 0, 0, 0), (0, 0, (-2147483648), 2147483647, x1)] M _
  refine cx_23_52 (show 0 ≤ x1 ∧ x1 < 8 by omega) ?_
  show post (some (1, 0, (-2147483648), 2147483647, M 52 x1)) M
  exact k1
theorem cx_65_50 {b : Bool} {A : Nat → Nat} {h0 : g_H} {d : Nat} {M : xa_M} {post : Option xa_V → xa_M → Prop} {l1 u1 : Int} {x1 : Int} (h1 : 0 ≤ x1 ∧ x1 < 8) (k1 : post (some (1, 0, (-2147483648), 2147483647, M 51 x1)) M) : xa_C (xl_I b) A h0 (d + 2) 65 [(2, 50, 0, 0, 0), (0, 0, l1, u1, x1)] M post := by
  refine xa_C_arg [(2, 50, 0, 0, 0), (0, 0, (-2147483648), 2147483647, x1)] (xa_svR (xa_svI (fun _ _ _ _ => by omega) (xa_sv0))) ?_
  refine xa_meth (Q0 := (2, 3, false, 0, 0, 0)) (by decide +kernel) ⟨rfl, rfl⟩ (full := s_c_65) rfl rfl ?_
  intro hM hv Q hgo
  refine hgo.1 10 [] 0 _ _ _ ?_
  show xa_C (xl_I b) A h0 _ 23 [(2, 51, 0, 0, 0), (0, 0, (-2147483648), 2147483647, x1)] M _
  refine cx_23_51 (show 0 ≤ x1 ∧ x1 < 8 by omega) ?_
  show post (some (1, 0, (-2147483648), 2147483647, M 51 x1)) M
  exact k1
theorem cx_64_55 {b : Bool} {A : Nat → Nat} {h0 : g_H} {d : Nat} {M : xa_M} {post : Option xa_V → xa_M → Prop} {l1 u1 : Int} {x1 : Int} (h1 : 0 ≤ x1 ∧ x1 < 8) (k1 : post (some (1, 0, (-2147483648), 2147483647, M 57 x1)) M) : xa_C (xl_I b) A h0 (d + 2) 64 [(2, 55, 0, 0, 0), (0, 0, l1, u1, x1)] M post := by
  refine xa_C_arg [(2, 55, 0, 0, 0), (0, 0, (-2147483648), 2147483647, x1)] (xa_svR (xa_svI (fun _ _ _ _ => by omega) (xa_sv0))) ?_
  refine xa_meth (Q0 := (2, 3, false, 0, 0, 0)) (by decide +kernel) ⟨rfl, rfl⟩ (full := s_c_64) rfl rfl ?_
  intro hM hv Q hgo
  refine hgo.1 10 [] 0 _ _ _ ?_
  show xa_C (xl_I b) A h0 _ 23 [(2, 57, 0, 0, 0), (0, 0, (-2147483648), 2147483647, x1)] M _
  refine cx_23_57 (show 0 ≤ x1 ∧ x1 < 8 by omega) ?_
  show post (some (1, 0, (-2147483648), 2147483647, M 57 x1)) M
  exact k1
theorem cx_65_55 {b : Bool} {A : Nat → Nat} {h0 : g_H} {d : Nat} {M : xa_M} {post : Option xa_V → xa_M → Prop} {l1 u1 : Int} {x1 : Int} (h1 : 0 ≤ x1 ∧ x1 < 8) (k1 : post (some (1, 0, (-2147483648), 2147483647, M 56 x1)) M) : xa_C (xl_I b) A h0 (d + 2) 65 [(2, 55, 0, 0, 0), (0, 0, l1, u1, x1)] M post := by
  refine xa_C_arg [(2, 55, 0, 0, 0), (0, 0, (-2147483648), 2147483647, x1)] (xa_svR (xa_svI (fun _ _ _ _ => by omega) (xa_sv0))) ?_
  refine xa_meth (Q0 := (2, 3, false, 0, 0, 0)) (by decide +kernel) ⟨rfl, rfl⟩ (full := s_c_65) rfl rfl ?_
  intro hM hv Q hgo
  refine hgo.1 10 [] 0 _ _ _ ?_
  show xa_C (xl_I b) A h0 _ 23 [(2, 56, 0, 0, 0), (0, 0, (-2147483648), 2147483647, x1)] M _
  refine cx_23_56 (show 0 ≤ x1 ∧ x1 < 8 by omega) ?_
  show post (some (1, 0, (-2147483648), 2147483647, M 56 x1)) M
  exact k1
