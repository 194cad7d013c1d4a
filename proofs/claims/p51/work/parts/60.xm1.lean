-- the model's methods, told of numbers: the plainest (made by wip/p24/xa/xm1.py)
theorem xa_gcd_step {a b : Int} (ha : 0 ≤ a) (hb : 0 ≤ b) : Int.gcd b (a % b) = Int.gcd a b := by
  obtain ⟨m, rfl⟩ := Int.eq_ofNat_of_zero_le ha
  obtain ⟨n, rfl⟩ := Int.eq_ofNat_of_zero_le hb
  show Nat.gcd n (m % n) = Nat.gcd m n
  rw [Nat.gcd_comm n, ← Nat.gcd_rec, Nat.gcd_comm]
theorem ct_abs {A : Nat → Nat} {h0 : g_H} {d : Nat} {M : xa_M} {post : Option xa_V → xa_M → Prop} {I : xa_I} {l u x lo hi : Int} (hx : -9223372036854775808 < x) (k : ∀ r : Int, r = (x.natAbs : Int) → (lo ≤ r ∧ r ≤ hi) ∧ post (some (1, 0, lo, hi, r)) M) : xa_C I A h0 (d + 1) 56 [(1, 0, l, u, x)] M post := by
  obtain ⟨k1, k2⟩ := k _ rfl
  refine xa_C_arg [(1, 0, -9223372036854775807, 9223372036854775807, x)] (xa_svL (fun _ _ _ _ => by omega) xa_sv0) (xa_C_wk ?_)
  refine xa_meth (Q0 := (2, 3, false, 0, 0, 14)) (by decide +kernel) ⟨rfl, rfl⟩ (full := s_c_56) rfl rfl ?_
  intro hM hv Q hgo
  refine hgo.1 11 [] 0 _ _ _ ?_
  refine And.intro ?_ ?_
  · intro (c1 : 0 ≤ x)
    show xa_wk post (some (1, 0, (-9223372036854775807), 9223372036854775807, x)) M
    exact xa_wkL _ (by omega) (fun _ _ => k1) k2
  · intro (c1 : x < 0)
    show xa_wk post (some (1, 0, (-9223372036854775807), 9223372036854775807, -x)) M
    exact xa_wkL _ (by omega) (fun _ _ => k1) k2
theorem ct_in {A : Nat → Nat} {h0 : g_H} {d : Nat} {M : xa_M} {post : Option xa_V → xa_M → Prop} {I : xa_I} {l1 u1 l2 u2 l3 u3 v a b : Int} (k1 : a ≤ v ∧ v ≤ b → post (some (0, 0, 1, 1, 1)) M) (k2 : ¬ (a ≤ v ∧ v ≤ b) → post (some (0, 0, 0, 0, 0)) M) : xa_C I A h0 (d + 1) 214 [(0, 0, l1, u1, v), (0, 0, l2, u2, a), (0, 0, l3, u3, b)] M post := by
  refine xa_C_arg [(0, 0, (-2147483648), 2147483647, v), (0, 0, (-2147483648), 2147483647, a), (0, 0, (-2147483648), 2147483647, b)] (xa_svI (fun _ _ _ _ => by omega) (xa_svI (fun _ _ _ _ => by omega) (xa_svI (fun _ _ _ _ => by omega) xa_sv0))) ?_
  refine xa_meth (Q0 := (3, 2, false, 0, 0, 12)) (by decide +kernel) ⟨rfl, rfl⟩ (full := s_c_214) rfl rfl ?_
  intro hM hv Q hgo
  refine hgo.1 13 [] 0 _ _ _ ?_
  refine And.intro ?_ ?_
  · intro (c1 : v < a)
    show post (some (0, 0, 0, 0, 0)) M
    first | exact k1 (by omega) | exact k2 (by omega)
  · intro (c1 : a ≤ v)
    refine And.intro ?_ ?_
    · intro (c2 : b < v)
      show post (some (0, 0, 0, 0, 0)) M
      first | exact k1 (by omega) | exact k2 (by omega)
    · intro (c2 : v ≤ b)
      show post (some (0, 0, 1, 1, 1)) M
      first | exact k1 (by omega) | exact k2 (by omega)
theorem ct_isAxle {A : Nat → Nat} {h0 : g_H} {d : Nat} {M : xa_M} {post : Option xa_V → xa_M → Prop} {I : xa_I} {l u a : Int} (k1 : 0 ≤ a ∧ a ≤ 9 → post (some (0, 0, 1, 1, 1)) M) (k2 : ¬ (0 ≤ a ∧ a ≤ 9) → post (some (0, 0, 0, 0, 0)) M) : xa_C I A h0 (d + 2) 215 [(0, 0, l, u, a)] M post := by
  refine xa_C_arg [(0, 0, (-2147483648), 2147483647, a)] (xa_svI (fun _ _ _ _ => by omega) xa_sv0) ?_
  refine xa_meth (Q0 := (1, 2, false, 0, 0, 12)) (by decide +kernel) ⟨rfl, rfl⟩ (full := s_c_215) rfl rfl ?_
  intro hM hv Q hgo
  refine hgo.1 9 [] 0 _ _ _ ?_
  show xa_C I A h0 _ 214 [(0, 0, (-2147483648), 2147483647, a), (0, 0, 0, 0, 0), (0, 0, 9, 9, 9)] M _
  refine ct_in ?_ ?_
  · intro (i1 : 0 ≤ a ∧ a ≤ 9)
    show post (some (0, 0, 1, 1, 1)) M
    first | exact k1 (by omega) | exact k2 (by omega)
  · intro (i1 : ¬ (0 ≤ a ∧ a ≤ 9))
    show post (some (0, 0, 0, 0, 0)) M
    first | exact k1 (by omega) | exact k2 (by omega)
theorem ct_isWheel {A : Nat → Nat} {h0 : g_H} {d : Nat} {M : xa_M} {post : Option xa_V → xa_M → Prop} {l u a : Int} (k1 : 0 ≤ a ∧ a < M 60 0 → post (some (0, 0, 1, 1, 1)) M) (k2 : ¬ (0 ≤ a ∧ a < M 60 0) → post (some (0, 0, 0, 0, 0)) M) : xa_C xm_I A h0 (d + 2) 217 [(2, 60, 0, 0, 0), (0, 0, l, u, a)] M post := by
  refine xa_C_arg [(2, 60, 0, 0, 0), (0, 0, (-2147483648), 2147483647, a)] (xa_svR (xa_svI (fun _ _ _ _ => by omega) xa_sv0)) ?_
  refine xa_meth (Q0 := (2, 2, false, 0, 0, 12)) (by decide +kernel) ⟨rfl, rfl⟩ (full := s_c_217) rfl rfl ?_
  intro hM hv Q hgo
  refine hgo.1 12 [] 0 _ _ _ ?_
  show xa_C xm_I A h0 _ 214 [(0, 0, (-2147483648), 2147483647, a), (0, 0, 0, 0, 0), (0, 0, (-1), 13, (M 60 0) - 1)] M _
  refine ct_in ?_ ?_
  · intro (i1 : 0 ≤ a ∧ a ≤ ((M 60 0) - 1))
    show post (some (0, 0, 1, 1, 1)) M
    first | exact k1 (by omega) | exact k2 (by omega)
  · intro (i1 : ¬ (0 ≤ a ∧ a ≤ ((M 60 0) - 1)))
    show post (some (0, 0, 0, 0, 0)) M
    first | exact k1 (by omega) | exact k2 (by omega)
theorem ct_isPeriod {A : Nat → Nat} {h0 : g_H} {d : Nat} {M : xa_M} {post : Option xa_V → xa_M → Prop} {l u a : Int} (k1 : 0 ≤ a ∧ a < M 60 11 → post (some (0, 0, 1, 1, 1)) M) (k2 : ¬ (0 ≤ a ∧ a < M 60 11) → post (some (0, 0, 0, 0, 0)) M) : xa_C xm_I A h0 (d + 2) 239 [(2, 60, 0, 0, 0), (0, 0, l, u, a)] M post := by
  refine xa_C_arg [(2, 60, 0, 0, 0), (0, 0, (-2147483648), 2147483647, a)] (xa_svR (xa_svI (fun _ _ _ _ => by omega) xa_sv0)) ?_
  refine xa_meth (Q0 := (2, 2, false, 0, 0, 12)) (by decide +kernel) ⟨rfl, rfl⟩ (full := s_c_239) rfl rfl ?_
  intro hM hv Q hgo
  refine hgo.1 12 [] 0 _ _ _ ?_
  show xa_C xm_I A h0 _ 214 [(0, 0, (-2147483648), 2147483647, a), (0, 0, 0, 0, 0), (0, 0, (-1), 7, (M 60 11) - 1)] M _
  refine ct_in ?_ ?_
  · intro (i1 : 0 ≤ a ∧ a ≤ ((M 60 11) - 1))
    show post (some (0, 0, 1, 1, 1)) M
    first | exact k1 (by omega) | exact k2 (by omega)
  · intro (i1 : ¬ (0 ≤ a ∧ a ≤ ((M 60 11) - 1)))
    show post (some (0, 0, 0, 0, 0)) M
    first | exact k1 (by omega) | exact k2 (by omega)
theorem ct_tell {A : Nat → Nat} {h0 : g_H} {d : Nat} {M : xa_M} {post : Option xa_V → xa_M → Prop} {l u v n : Int} (hn : M 60 20 = n) (h1 : 0 ≤ n) (h2 : n < 32) (k : post none (xa_up (xa_up M 74 n v) 60 20 (n + 1))) : xa_C xm_I A h0 (d + 1) 231 [(2, 60, 0, 0, 0), (1, 0, l, u, v)] M post := by
  subst hn
  refine xa_C_arg [(2, 60, 0, 0, 0), (1, 0, (-9223372036854775808), 9223372036854775807, v)] (xa_svR (xa_svL (fun _ _ _ _ => by omega) xa_sv0)) ?_
  refine xa_meth (Q0 := (3, 0, false, 0, 0, 12)) (by decide +kernel) ⟨rfl, rfl⟩ (full := s_c_231) rfl rfl ?_
  intro hM hv Q hgo
  refine hgo.1 17 [] 0 _ _ _ ?_
  refine And.intro (show 0 ≤ (M 60 20) ∧ (M 60 20) < 32 by omega) ?_
  refine And.intro (show 0 ≤ ((M 60 20) + 1) ∧ ((M 60 20) + 1) ≤ 32 by omega) ?_
  show post none (xa_up (xa_up M 74 (M 60 20) v) 60 20 ((M 60 20) + 1))
  exact k
theorem ct_gcd {A : Nat → Nat} {h0 : g_H} {d : Nat} {M : xa_M} {post : Option xa_V → xa_M → Prop} {I : xa_I} {l1 u1 l2 u2 x y lo hi g : Int} (hx : -9223372036854775808 < x) (hy : -9223372036854775808 < y) (hg : g = (Int.gcd x y : Int)) (k1 : lo ≤ g ∧ g ≤ hi) (k2 : post (some (1, 0, lo, hi, g)) M) : xa_C I A h0 (d + 2) 229 [(1, 0, l1, u1, x), (1, 0, l2, u2, y)] M post := by
  subst hg
  refine xa_C_arg [(1, 0, (-9223372036854775807), 9223372036854775807, x), (1, 0, (-9223372036854775807), 9223372036854775807, y)] (xa_svL (fun _ _ _ _ => by omega) (xa_svL (fun _ _ _ _ => by omega) xa_sv0)) (xa_C_wk ?_)
  refine xa_meth (Q0 := (10, 3, false, 0, 0, 12)) (by decide +kernel) ⟨rfl, rfl⟩ (full := s_c_229) rfl rfl ?_
  intro hM hv Q hgo
  have v1 : x ≤ 9223372036854775807 := (hv (1, 0, (-9223372036854775807), 9223372036854775807, x) List.mem_cons_self (show (1 : Nat) < 2 by decide)).2
  have v2 : y ≤ 9223372036854775807 := (hv (1, 0, (-9223372036854775807), 9223372036854775807, y) (List.mem_cons_of_mem _ List.mem_cons_self) (show (1 : Nat) < 2 by decide)).2
  have loop : ∀ (n : Nat) (a b : Int), 0 ≤ a → 0 ≤ b → b < (n : Int) → a ≤ 9223372036854775807 → b ≤ 9223372036854775807 → Int.gcd a b = Int.gcd x y → Q 12 [(6, (1, 0, 0, 9223372036854775807, b)), (4, (1, 0, 0, 9223372036854775807, a))] [] M := by
    intro n
    induction n with
    | zero => intro a b h1 h2 h3; omega
    | succ n ih =>
      intro a b h1 h2 h3 h4 h5 h6
      refine hgo.1 17 [12] 12 _ _ _ ?_
      refine And.intro ?_ ?_
      · intro (c1 : b = 0)
        show xa_wk post (some (1, 0, 0, 9223372036854775807, a)) M
        have e : ((Int.gcd x y : Nat) : Int) = a := by
          rw [← h6, c1, Int.gcd_zero_right]
          omega
        exact xa_wkL _ e.symm (fun _ _ => k1) k2
      · intro (c1 : ¬ b = 0)
        refine And.intro (show 0 < b by omega) ?_
        show Q 12 [(6, (1, 0, 0, 9223372036854775806, a % b)), (4, (1, 0, 0, 9223372036854775807, b)), (8, (1, 0, 0, 9223372036854775806, a % b))] [] M
        refine hgo.2.1 12 _ [(6, (1, 0, 0, 9223372036854775807, a % b)), (4, (1, 0, 0, 9223372036854775807, b))] _ _ (xa_subL rfl rfl (fun _ _ _ _ => by omega) (xa_subL rfl rfl (fun _ _ _ _ => by omega) xa_sub0)) ?_
        have e1 := Int.emod_nonneg a (show b ≠ 0 by omega)
        have e2 := Int.emod_lt_of_pos a (show 0 < b by omega)
        exact ih b (a % b) (by omega) (by omega) (by omega) (by omega) (by omega) (by rw [← h6]; exact xa_gcd_step h1 h2)
  refine hgo.1 11 [12] 0 _ _ _ ?_
  show xa_C I A h0 _ 56 [(1, 0, (-9223372036854775807), 9223372036854775807, x)] M _
  refine ct_abs (lo := 0) (hi := 9223372036854775807) (by omega) (fun a1 ea1 => ⟨by omega, ?_⟩)
  show xa_C I A h0 _ 56 [(1, 0, (-9223372036854775807), 9223372036854775807, y)] M _
  refine ct_abs (lo := 0) (hi := 9223372036854775807) (by omega) (fun a2 ea2 => ⟨by omega, ?_⟩)
  show Q 12 [(6, (1, 0, 0, 9223372036854775807, a2)), (4, (1, 0, 0, 9223372036854775807, a1)), (0, (1, 0, (-9223372036854775807), 9223372036854775807, x)), (2, (1, 0, (-9223372036854775807), 9223372036854775807, y))] [] M
  refine hgo.2.1 12 _ [(6, (1, 0, 0, 9223372036854775807, a2)), (4, (1, 0, 0, 9223372036854775807, a1))] _ _ (xa_subL rfl rfl (fun _ _ _ _ => by omega) (xa_subL rfl rfl (fun _ _ _ _ => by omega) xa_sub0)) ?_
  exact loop (a2.toNat + 1) a1 a2 (by omega) (by omega) (by omega) (by omega) (by omega) (by rw [ea1, ea2]; rfl)
