-- what the shop can make: one pair, two pairs (class)
set_option maxRecDepth 20000
theorem cx_21h {b : Bool} {A : Nat → Nat} {h0 : g_H} {d : Nat} {M : xa_M} {post : Option xa_V → xa_M → Prop} {l1 u1 l2 u2 x y : Int} (hx : 0 ≤ x ∧ x ≤ 320000000) (hy : 1 ≤ y ∧ y ≤ 9223372036854775807) (k : post (some (1, 0, 0, 320000000, x / y)) M) : xa_C (xl_I b) A h0 (d + 1) 21 [(1, 0, l1, u1, x), (1, 0, l2, u2, y)] M post := by
  refine xa_C_wk ?_
  refine xa_C_arg [(1, 0, 0, 320000000, x), (1, 0, 1, 9223372036854775807, y)] (xa_svL (fun _ _ _ _ => by omega) (xa_svL (fun _ _ _ _ => by omega) xa_sv0)) ?_
  refine xa_meth (Q0 := (4, 3, false, 0, 0, 11)) (by decide +kernel) ⟨rfl, rfl⟩ (full := s_c_21) rfl rfl ?_
  intro hM hv Q hgo
  have q0 := Int.ediv_nonneg (show 0 ≤ x by omega) (show 0 ≤ y by omega)
  have q1 := Int.ediv_le_self y (show 0 ≤ x by omega)
  refine hgo.1 11 [] 0 _ _ _ ?_
  show xa_wk post (some (1, 0, 0, 320000000, x / y)) M
  exact xa_wkL (x / y) rfl (fun _ _ => by omega) k
theorem cx_59n {b : Bool} {A : Nat → Nat} {h0 : g_H} {d : Nat} {M : xa_M} {post : Option xa_V → xa_M → Prop} {N : xa_M} (hk : ∀ (q : Nat) (j : Int), ¬ (q = 48 ∨ q = 49) → M q j = N q j) (k : ∀ M1 : xa_M, (∀ (q : Nat) (j : Int), ¬ (q = 48 ∨ q = 49) → M1 q j = N q j) → (0 : Int) ≤ M1 48 1 → post none M1) : xa_C (xl_I b) A h0 (d + 1) 59 [(2, 48, 0, 0, 0)] M post :=
  cx_59_48 (k _ (fun q j hq => (xa_up_ne (by omega)).trans (hk q j hq)) (by rw [xa_up_eq]; decide))
theorem cx_60n {b : Bool} {A : Nat → Nat} {h0 : g_H} {d : Nat} {M : xa_M} {post : Option xa_V → xa_M → Prop} {N : xa_M} {l1 u1 x1 : Int} (hk : ∀ (q : Nat) (j : Int), ¬ (q = 48 ∨ q = 49) → M q j = N q j) (h1 : (0 : Int) ≤ M 48 1) (k : ∀ M1 : xa_M, (∀ (q : Nat) (j : Int), ¬ (q = 48 ∨ q = 49) → M1 q j = N q j) → (0 : Int) ≤ M1 48 1 → post none M1) : xa_C (xl_I b) A h0 (d + 2) 60 [(2, 48, 0, 0, 0), (1, 0, l1, u1, x1)] M post :=
  cx_60_48 h1 (fun _ => k M hk h1) (fun h => k _ (fun q j hq => (xa_up_ne (by omega)).trans ((xa_up_ne (by omega)).trans (hk q j hq))) (by
    rw [xa_up_eq, xa_w32_id (by omega) (by omega)]
    omega))
