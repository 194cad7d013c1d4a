-- joined: 59.xm, 60.xm1, 61.xmt, 62.xm2, 63.xm3, 64.xm4, 65.xm5, 66.xm6, 67.xm7, 68.xm8, 69.xm9, 70.xm10, 71.xm11
section
-- the model's cells: the object at place 60, its arrays at 61 to 105
def xa_nt : List y_R1 → Nat → Option y_R1
  | [], _ => none
  | r :: _, 0 => some r
  | _ :: t, n + 1 => xa_nt t n
def xm_ro (q : Nat) : Nat := bif Nat.beq q 60 then 12 else q - 5
def xm_I : xa_I := fun q => bif Nat.ble 60 q && Nat.ble q 105 then (match xa_nt y_Rm.1 (xm_ro q) with
  | some ro => some (ro, fun j => (y_sp ro j).2.1.toNat + 5)
  | none => none) else none
end
section
-- the model's methods, told of numbers: the plainest (made by wip/p24/xa/xm1.py)
theorem xa_gcd_step {a b : Int} (ha : 0 ≤ a) (hb : 0 ≤ b) : Int.gcd b (a % b) = Int.gcd a b := by
  obtain ⟨m, rfl⟩ := Int.eq_ofNat_of_zero_le ha
  obtain ⟨n, rfl⟩ := Int.eq_ofNat_of_zero_le hb
  show Nat.gcd n (m % n) = Nat.gcd m n
  rw [Nat.gcd_comm n, ← Nat.gcd_rec, Nat.gcd_comm]
theorem ct_abs {A : Nat → Nat} {h0 : g_H} {d : Nat} {M : xa_M} {post : Option xa_V → xa_M → Prop} {I : xa_I} {l u x lo hi : Int} (hx : -9223372036854775808 < x) (k : ∀ r : Int, r = (x.natAbs : Int) → (lo ≤ r ∧ r ≤ hi) ∧ post (some (1, 0, lo, hi, r)) M) : xa_C I A h0 (d + 1) 56 [(1, 0, l, u, x)] M post := by
  obtain ⟨k1, k2⟩ := k _ rfl
  refine xa_C_arg [(1, 0, -9223372036854775807, 9223372036854775807, x)] (xa_svL (fun _ _ _ _ => by omega) xa_sv0) (xa_C_wk ?_)
  refine xa_meth (Q0 := (2, 3, false, 0, 0, 14)) (by decide +kernel) ⟨rfl, rfl⟩ (full := s_c_56) rfl rfl ?_
  intro hM hv Q hgo
  refine hgo.1 11 [] 0 _ _ _ ?_
  refine And.intro ?_ ?_
  · intro (c1 : 0 ≤ x)
    show xa_wk post (some (1, 0, (-9223372036854775807), 9223372036854775807, x)) M
    exact xa_wkL _ (by omega) (fun _ _ => k1) k2
  · intro (c1 : x < 0)
    show xa_wk post (some (1, 0, (-9223372036854775807), 9223372036854775807, -x)) M
    exact xa_wkL _ (by omega) (fun _ _ => k1) k2
theorem ct_in {A : Nat → Nat} {h0 : g_H} {d : Nat} {M : xa_M} {post : Option xa_V → xa_M → Prop} {I : xa_I} {l1 u1 l2 u2 l3 u3 v a b : Int} (k1 : a ≤ v ∧ v ≤ b → post (some (0, 0, 1, 1, 1)) M) (k2 : ¬ (a ≤ v ∧ v ≤ b) → post (some (0, 0, 0, 0, 0)) M) : xa_C I A h0 (d + 1) 214 [(0, 0, l1, u1, v), (0, 0, l2, u2, a), (0, 0, l3, u3, b)] M post := by
  refine xa_C_arg [(0, 0, (-2147483648), 2147483647, v), (0, 0, (-2147483648), 2147483647, a), (0, 0, (-2147483648), 2147483647, b)] (xa_svI (fun _ _ _ _ => by omega) (xa_svI (fun _ _ _ _ => by omega) (xa_svI (fun _ _ _ _ => by omega) xa_sv0))) ?_
  refine xa_meth (Q0 := (3, 2, false, 0, 0, 12)) (by decide +kernel) ⟨rfl, rfl⟩ (full := s_c_214) rfl rfl ?_
  intro hM hv Q hgo
  refine hgo.1 13 [] 0 _ _ _ ?_
  refine And.intro ?_ ?_
  · intro (c1 : v < a)
    show post (some (0, 0, 0, 0, 0)) M
    first | exact k1 (by omega) | exact k2 (by omega)
  · intro (c1 : a ≤ v)
    refine And.intro ?_ ?_
    · intro (c2 : b < v)
      show post (some (0, 0, 0, 0, 0)) M
      first | exact k1 (by omega) | exact k2 (by omega)
    · intro (c2 : v ≤ b)
      show post (some (0, 0, 1, 1, 1)) M
      first | exact k1 (by omega) | exact k2 (by omega)
theorem ct_isAxle {A : Nat → Nat} {h0 : g_H} {d : Nat} {M : xa_M} {post : Option xa_V → xa_M → Prop} {I : xa_I} {l u a : Int} (k1 : 0 ≤ a ∧ a ≤ 9 → post (some (0, 0, 1, 1, 1)) M) (k2 : ¬ (0 ≤ a ∧ a ≤ 9) → post (some (0, 0, 0, 0, 0)) M) : xa_C I A h0 (d + 2) 215 [(0, 0, l, u, a)] M post := by
  refine xa_C_arg [(0, 0, (-2147483648), 2147483647, a)] (xa_svI (fun _ _ _ _ => by omega) xa_sv0) ?_
  refine xa_meth (Q0 := (1, 2, false, 0, 0, 12)) (by decide +kernel) ⟨rfl, rfl⟩ (full := s_c_215) rfl rfl ?_
  intro hM hv Q hgo
  refine hgo.1 9 [] 0 _ _ _ ?_
  show xa_C I A h0 _ 214 [(0, 0, (-2147483648), 2147483647, a), (0, 0, 0, 0, 0), (0, 0, 9, 9, 9)] M _
  refine ct_in ?_ ?_
  · intro (i1 : 0 ≤ a ∧ a ≤ 9)
    show post (some (0, 0, 1, 1, 1)) M
    first | exact k1 (by omega) | exact k2 (by omega)
  · intro (i1 : ¬ (0 ≤ a ∧ a ≤ 9))
    show post (some (0, 0, 0, 0, 0)) M
    first | exact k1 (by omega) | exact k2 (by omega)
theorem ct_isWheel {A : Nat → Nat} {h0 : g_H} {d : Nat} {M : xa_M} {post : Option xa_V → xa_M → Prop} {l u a : Int} (k1 : 0 ≤ a ∧ a < M 60 0 → post (some (0, 0, 1, 1, 1)) M) (k2 : ¬ (0 ≤ a ∧ a < M 60 0) → post (some (0, 0, 0, 0, 0)) M) : xa_C xm_I A h0 (d + 2) 217 [(2, 60, 0, 0, 0), (0, 0, l, u, a)] M post := by
  refine xa_C_arg [(2, 60, 0, 0, 0), (0, 0, (-2147483648), 2147483647, a)] (xa_svR (xa_svI (fun _ _ _ _ => by omega) xa_sv0)) ?_
  refine xa_meth (Q0 := (2, 2, false, 0, 0, 12)) (by decide +kernel) ⟨rfl, rfl⟩ (full := s_c_217) rfl rfl ?_
  intro hM hv Q hgo
  refine hgo.1 12 [] 0 _ _ _ ?_
  show xa_C xm_I A h0 _ 214 [(0, 0, (-2147483648), 2147483647, a), (0, 0, 0, 0, 0), (0, 0, (-1), 13, (M 60 0) - 1)] M _
  refine ct_in ?_ ?_
  · intro (i1 : 0 ≤ a ∧ a ≤ ((M 60 0) - 1))
    show post (some (0, 0, 1, 1, 1)) M
    first | exact k1 (by omega) | exact k2 (by omega)
  · intro (i1 : ¬ (0 ≤ a ∧ a ≤ ((M 60 0) - 1)))
    show post (some (0, 0, 0, 0, 0)) M
    first | exact k1 (by omega) | exact k2 (by omega)
theorem ct_isPeriod {A : Nat → Nat} {h0 : g_H} {d : Nat} {M : xa_M} {post : Option xa_V → xa_M → Prop} {l u a : Int} (k1 : 0 ≤ a ∧ a < M 60 11 → post (some (0, 0, 1, 1, 1)) M) (k2 : ¬ (0 ≤ a ∧ a < M 60 11) → post (some (0, 0, 0, 0, 0)) M) : xa_C xm_I A h0 (d + 2) 239 [(2, 60, 0, 0, 0), (0, 0, l, u, a)] M post := by
  refine xa_C_arg [(2, 60, 0, 0, 0), (0, 0, (-2147483648), 2147483647, a)] (xa_svR (xa_svI (fun _ _ _ _ => by omega) xa_sv0)) ?_
  refine xa_meth (Q0 := (2, 2, false, 0, 0, 12)) (by decide +kernel) ⟨rfl, rfl⟩ (full := s_c_239) rfl rfl ?_
  intro hM hv Q hgo
  refine hgo.1 12 [] 0 _ _ _ ?_
  show xa_C xm_I A h0 _ 214 [(0, 0, (-2147483648), 2147483647, a), (0, 0, 0, 0, 0), (0, 0, (-1), 7, (M 60 11) - 1)] M _
  refine ct_in ?_ ?_
  · intro (i1 : 0 ≤ a ∧ a ≤ ((M 60 11) - 1))
    show post (some (0, 0, 1, 1, 1)) M
    first | exact k1 (by omega) | exact k2 (by omega)
  · intro (i1 : ¬ (0 ≤ a ∧ a ≤ ((M 60 11) - 1)))
    show post (some (0, 0, 0, 0, 0)) M
    first | exact k1 (by omega) | exact k2 (by omega)
theorem ct_tell {A : Nat → Nat} {h0 : g_H} {d : Nat} {M : xa_M} {post : Option xa_V → xa_M → Prop} {l u v n : Int} (hn : M 60 20 = n) (h1 : 0 ≤ n) (h2 : n < 32) (k : post none (xa_up (xa_up M 74 n v) 60 20 (n + 1))) : xa_C xm_I A h0 (d + 1) 231 [(2, 60, 0, 0, 0), (1, 0, l, u, v)] M post := by
  subst hn
  refine xa_C_arg [(2, 60, 0, 0, 0), (1, 0, (-9223372036854775808), 9223372036854775807, v)] (xa_svR (xa_svL (fun _ _ _ _ => by omega) xa_sv0)) ?_
  refine xa_meth (Q0 := (3, 0, false, 0, 0, 12)) (by decide +kernel) ⟨rfl, rfl⟩ (full := s_c_231) rfl rfl ?_
  intro hM hv Q hgo
  refine hgo.1 17 [] 0 _ _ _ ?_
  refine And.intro (show 0 ≤ (M 60 20) ∧ (M 60 20) < 32 by omega) ?_
  refine And.intro (show 0 ≤ ((M 60 20) + 1) ∧ ((M 60 20) + 1) ≤ 32 by omega) ?_
  show post none (xa_up (xa_up M 74 (M 60 20) v) 60 20 ((M 60 20) + 1))
  exact k
theorem ct_gcd {A : Nat → Nat} {h0 : g_H} {d : Nat} {M : xa_M} {post : Option xa_V → xa_M → Prop} {I : xa_I} {l1 u1 l2 u2 x y lo hi g : Int} (hx : -9223372036854775808 < x) (hy : -9223372036854775808 < y) (hg : g = (Int.gcd x y : Int)) (k1 : lo ≤ g ∧ g ≤ hi) (k2 : post (some (1, 0, lo, hi, g)) M) : xa_C I A h0 (d + 2) 229 [(1, 0, l1, u1, x), (1, 0, l2, u2, y)] M post := by
  subst hg
  refine xa_C_arg [(1, 0, (-9223372036854775807), 9223372036854775807, x), (1, 0, (-9223372036854775807), 9223372036854775807, y)] (xa_svL (fun _ _ _ _ => by omega) (xa_svL (fun _ _ _ _ => by omega) xa_sv0)) (xa_C_wk ?_)
  refine xa_meth (Q0 := (10, 3, false, 0, 0, 12)) (by decide +kernel) ⟨rfl, rfl⟩ (full := s_c_229) rfl rfl ?_
  intro hM hv Q hgo
  have v1 : x ≤ 9223372036854775807 := (hv (1, 0, (-9223372036854775807), 9223372036854775807, x) List.mem_cons_self (show (1 : Nat) < 2 by decide)).2
  have v2 : y ≤ 9223372036854775807 := (hv (1, 0, (-9223372036854775807), 9223372036854775807, y) (List.mem_cons_of_mem _ List.mem_cons_self) (show (1 : Nat) < 2 by decide)).2
  have loop : ∀ (n : Nat) (a b : Int), 0 ≤ a → 0 ≤ b → b < (n : Int) → a ≤ 9223372036854775807 → b ≤ 9223372036854775807 → Int.gcd a b = Int.gcd x y → Q 12 [(6, (1, 0, 0, 9223372036854775807, b)), (4, (1, 0, 0, 9223372036854775807, a))] [] M := by
    intro n
    induction n with
    | zero => intro a b h1 h2 h3; omega
    | succ n ih =>
      intro a b h1 h2 h3 h4 h5 h6
      refine hgo.1 17 [12] 12 _ _ _ ?_
      refine And.intro ?_ ?_
      · intro (c1 : b = 0)
        show xa_wk post (some (1, 0, 0, 9223372036854775807, a)) M
        have e : ((Int.gcd x y : Nat) : Int) = a := by
          rw [← h6, c1, Int.gcd_zero_right]
          omega
        exact xa_wkL _ e.symm (fun _ _ => k1) k2
      · intro (c1 : ¬ b = 0)
        refine And.intro (show 0 < b by omega) ?_
        show Q 12 [(6, (1, 0, 0, 9223372036854775806, a % b)), (4, (1, 0, 0, 9223372036854775807, b)), (8, (1, 0, 0, 9223372036854775806, a % b))] [] M
        refine hgo.2.1 12 _ [(6, (1, 0, 0, 9223372036854775807, a % b)), (4, (1, 0, 0, 9223372036854775807, b))] _ _ (xa_subL rfl rfl (fun _ _ _ _ => by omega) (xa_subL rfl rfl (fun _ _ _ _ => by omega) xa_sub0)) ?_
        have e1 := Int.emod_nonneg a (show b ≠ 0 by omega)
        have e2 := Int.emod_lt_of_pos a (show 0 < b by omega)
        exact ih b (a % b) (by omega) (by omega) (by omega) (by omega) (by omega) (by rw [← h6]; exact xa_gcd_step h1 h2)
  refine hgo.1 11 [12] 0 _ _ _ ?_
  show xa_C I A h0 _ 56 [(1, 0, (-9223372036854775807), 9223372036854775807, x)] M _
  refine ct_abs (lo := 0) (hi := 9223372036854775807) (by omega) (fun a1 ea1 => ⟨by omega, ?_⟩)
  show xa_C I A h0 _ 56 [(1, 0, (-9223372036854775807), 9223372036854775807, y)] M _
  refine ct_abs (lo := 0) (hi := 9223372036854775807) (by omega) (fun a2 ea2 => ⟨by omega, ?_⟩)
  show Q 12 [(6, (1, 0, 0, 9223372036854775807, a2)), (4, (1, 0, 0, 9223372036854775807, a1)), (0, (1, 0, (-9223372036854775807), 9223372036854775807, x)), (2, (1, 0, (-9223372036854775807), 9223372036854775807, y))] [] M
  refine hgo.2.1 12 _ [(6, (1, 0, 0, 9223372036854775807, a2)), (4, (1, 0, 0, 9223372036854775807, a1))] _ _ (xa_subL rfl rfl (fun _ _ _ _ => by omega) (xa_subL rfl rfl (fun _ _ _ _ => by omega) xa_sub0)) ?_
  exact loop (a2.toNat + 1) a1 a2 (by omega) (by omega) (by omega) (by omega) (by omega) (by rw [ea1, ea2]; rfl)
end
section
-- bounds of the model's cells; what is left alone (made by wip/p24/xa/xm2.py)
section XM
variable {M M1 M2 : xa_M}
theorem xm_f0 (hM : xa_Mok xm_I M) : 0 ≤ M 60 0 ∧ M 60 0 ≤ 14 := hM 60 _ _ rfl 0 (by decide) (show (0 : Nat) < 2 by decide)
theorem xm_t61 (hM : xa_Mok xm_I M) (j : Int) (h0 : 0 ≤ j) (h1 : j < 14) : 0 ≤ M 61 j ∧ M 61 j ≤ 400 := by
  obtain ⟨n, rfl⟩ := Int.eq_ofNat_of_zero_le h0
  exact hM 61 _ _ rfl n (show n < 14 by omega) (show (0 : Nat) < 2 by decide)
theorem xm_t62 (hM : xa_Mok xm_I M) (j : Int) (h0 : 0 ≤ j) (h1 : j < 14) : 0 ≤ M 62 j ∧ M 62 j ≤ 400 := by
  obtain ⟨n, rfl⟩ := Int.eq_ofNat_of_zero_le h0
  exact hM 62 _ _ rfl n (show n < 14 by omega) (show (0 : Nat) < 2 by decide)
theorem xm_t63 (hM : xa_Mok xm_I M) (j : Int) (h0 : 0 ≤ j) (h1 : j < 14) : 0 ≤ M 63 j ∧ M 63 j ≤ 400 := by
  obtain ⟨n, rfl⟩ := Int.eq_ofNat_of_zero_le h0
  exact hM 63 _ _ rfl n (show n < 14 by omega) (show (0 : Nat) < 2 by decide)
theorem xm_t64 (hM : xa_Mok xm_I M) (j : Int) (h0 : 0 ≤ j) (h1 : j < 14) : 0 ≤ M 64 j ∧ M 64 j ≤ 9 := by
  obtain ⟨n, rfl⟩ := Int.eq_ofNat_of_zero_le h0
  exact hM 64 _ _ rfl n (show n < 14 by omega) (show (0 : Nat) < 2 by decide)
theorem xm_t65 (hM : xa_Mok xm_I M) (j : Int) (h0 : 0 ≤ j) (h1 : j < 14) : 0 ≤ M 65 j ∧ M 65 j ≤ 9 := by
  obtain ⟨n, rfl⟩ := Int.eq_ofNat_of_zero_le h0
  exact hM 65 _ _ rfl n (show n < 14 by omega) (show (0 : Nat) < 2 by decide)
theorem xm_f6 (hM : xa_Mok xm_I M) : 0 ≤ M 60 6 ∧ M 60 6 ≤ 16 := hM 60 _ _ rfl 6 (by decide) (show (0 : Nat) < 2 by decide)
theorem xm_t66 (hM : xa_Mok xm_I M) (j : Int) (h0 : 0 ≤ j) (h1 : j < 16) : 0 ≤ M 66 j ∧ M 66 j ≤ 13 := by
  obtain ⟨n, rfl⟩ := Int.eq_ofNat_of_zero_le h0
  exact hM 66 _ _ rfl n (show n < 16 by omega) (show (0 : Nat) < 2 by decide)
theorem xm_t67 (hM : xa_Mok xm_I M) (j : Int) (h0 : 0 ≤ j) (h1 : j < 16) : 0 ≤ M 67 j ∧ M 67 j ≤ 13 := by
  obtain ⟨n, rfl⟩ := Int.eq_ofNat_of_zero_le h0
  exact hM 67 _ _ rfl n (show n < 16 by omega) (show (0 : Nat) < 2 by decide)
theorem xm_t68 (hM : xa_Mok xm_I M) (j : Int) (h0 : 0 ≤ j) (h1 : j < 10) : (-500) ≤ M 68 j ∧ M 68 j ≤ 500 := by
  obtain ⟨n, rfl⟩ := Int.eq_ofNat_of_zero_le h0
  exact hM 68 _ _ rfl n (show n < 10 by omega) (show (0 : Nat) < 2 by decide)
theorem xm_t69 (hM : xa_Mok xm_I M) (j : Int) (h0 : 0 ≤ j) (h1 : j < 10) : (-500) ≤ M 69 j ∧ M 69 j ≤ 500 := by
  obtain ⟨n, rfl⟩ := Int.eq_ofNat_of_zero_le h0
  exact hM 69 _ _ rfl n (show n < 10 by omega) (show (0 : Nat) < 2 by decide)
theorem xm_f11 (hM : xa_Mok xm_I M) : 0 ≤ M 60 11 ∧ M 60 11 ≤ 8 := hM 60 _ _ rfl 11 (by decide) (show (0 : Nat) < 2 by decide)
theorem xm_t70 (hM : xa_Mok xm_I M) (j : Int) (h0 : 0 ≤ j) (h1 : j < 8) : 0 ≤ M 70 j ∧ M 70 j ≤ 2000 := by
  obtain ⟨n, rfl⟩ := Int.eq_ofNat_of_zero_le h0
  exact hM 70 _ _ rfl n (show n < 8 by omega) (show (0 : Nat) < 2 by decide)
theorem xm_t71 (hM : xa_Mok xm_I M) (j : Int) (h0 : 0 ≤ j) (h1 : j < 8) : 0 ≤ M 71 j ∧ M 71 j ≤ 2000 := by
  obtain ⟨n, rfl⟩ := Int.eq_ofNat_of_zero_le h0
  exact hM 71 _ _ rfl n (show n < 8 by omega) (show (0 : Nat) < 2 by decide)
theorem xm_f15 (hM : xa_Mok xm_I M) : 10 ≤ M 60 15 ∧ M 60 15 ≤ 400 := hM 60 _ _ rfl 15 (by decide) (show (0 : Nat) < 2 by decide)
theorem xm_f16 (hM : xa_Mok xm_I M) : 10 ≤ M 60 16 ∧ M 60 16 ≤ 400 := hM 60 _ _ rfl 16 (by decide) (show (0 : Nat) < 2 by decide)
theorem xm_t73 (hM : xa_Mok xm_I M) (j : Int) (h0 : 0 ≤ j) (h1 : j < 80) : (-128) ≤ M 73 j ∧ M 73 j ≤ 127 := by
  obtain ⟨n, rfl⟩ := Int.eq_ofNat_of_zero_le h0
  exact hM 73 _ _ rfl n (show n < 80 by omega) (show (0 : Nat) < 2 by decide)
theorem xm_f18 (hM : xa_Mok xm_I M) : 0 ≤ M 60 18 ∧ M 60 18 ≤ 80 := hM 60 _ _ rfl 18 (by decide) (show (0 : Nat) < 2 by decide)
theorem xm_f20 (hM : xa_Mok xm_I M) : 0 ≤ M 60 20 ∧ M 60 20 ≤ 32 := hM 60 _ _ rfl 20 (by decide) (show (0 : Nat) < 2 by decide)
theorem xm_t75 (hM : xa_Mok xm_I M) (j : Int) (h0 : 0 ≤ j) (h1 : j < 10) : (-1000000000000000) ≤ M 75 j ∧ M 75 j ≤ 1000000000000000 := by
  obtain ⟨n, rfl⟩ := Int.eq_ofNat_of_zero_le h0
  exact hM 75 _ _ rfl n (show n < 10 by omega) (show (1 : Nat) < 2 by decide)
theorem xm_t76 (hM : xa_Mok xm_I M) (j : Int) (h0 : 0 ≤ j) (h1 : j < 10) : 0 ≤ M 76 j ∧ M 76 j ≤ 1000000000000000 := by
  obtain ⟨n, rfl⟩ := Int.eq_ofNat_of_zero_le h0
  exact hM 76 _ _ rfl n (show n < 10 by omega) (show (1 : Nat) < 2 by decide)
theorem xm_t77 (hM : xa_Mok xm_I M) (j : Int) (h0 : 0 ≤ j) (h1 : j < 10) : 0 ≤ M 77 j ∧ M 77 j ≤ 1 := by
  obtain ⟨n, rfl⟩ := Int.eq_ofNat_of_zero_le h0
  exact hM 77 _ _ rfl n (show n < 10 by omega) (show (0 : Nat) < 2 by decide)
theorem xm_t78 (hM : xa_Mok xm_I M) (j : Int) (h0 : 0 ≤ j) (h1 : j < 10) : 0 ≤ M 78 j ∧ M 78 j ≤ 99 := by
  obtain ⟨n, rfl⟩ := Int.eq_ofNat_of_zero_le h0
  exact hM 78 _ _ rfl n (show n < 10 by omega) (show (0 : Nat) < 2 by decide)
theorem xm_f29 (hM : xa_Mok xm_I M) : 0 ≤ M 60 29 ∧ M 60 29 ≤ 10 := hM 60 _ _ rfl 29 (by decide) (show (0 : Nat) < 2 by decide)
theorem xm_t80 (hM : xa_Mok xm_I M) (j : Int) (h0 : 0 ≤ j) (h1 : j < 14) : 0 ≤ M 80 j ∧ M 80 j ≤ 13 := by
  obtain ⟨n, rfl⟩ := Int.eq_ofNat_of_zero_le h0
  exact hM 80 _ _ rfl n (show n < 14 by omega) (show (0 : Nat) < 2 by decide)
theorem xm_f32 (hM : xa_Mok xm_I M) : 0 ≤ M 60 32 ∧ M 60 32 ≤ 14 := hM 60 _ _ rfl 32 (by decide) (show (0 : Nat) < 2 by decide)
theorem xm_t84 (hM : xa_Mok xm_I M) (j : Int) (h0 : 0 ≤ j) (h1 : j < 14) : 0 ≤ M 84 j ∧ M 84 j ≤ 400 := by
  obtain ⟨n, rfl⟩ := Int.eq_ofNat_of_zero_le h0
  exact hM 84 _ _ rfl n (show n < 14 by omega) (show (0 : Nat) < 2 by decide)
theorem xm_f40 (hM : xa_Mok xm_I M) : 0 ≤ M 60 40 ∧ M 60 40 ≤ 80 := hM 60 _ _ rfl 40 (by decide) (show (0 : Nat) < 2 by decide)
theorem xm_f41 (hM : xa_Mok xm_I M) : 0 ≤ M 60 41 ∧ M 60 41 ≤ 100 := hM 60 _ _ rfl 41 (by decide) (show (0 : Nat) < 2 by decide)
theorem xm_t96 (hM : xa_Mok xm_I M) (j : Int) (h0 : 0 ≤ j) (h1 : j < 223) : 0 ≤ M 96 j ∧ M 96 j ≤ 1 := by
  obtain ⟨n, rfl⟩ := Int.eq_ofNat_of_zero_le h0
  exact hM 96 _ _ rfl n (show n < 223 by omega) (show (0 : Nat) < 2 by decide)
theorem xm_f56 (hM : xa_Mok xm_I M) : 0 ≤ M 60 56 ∧ M 60 56 ≤ 20 := hM 60 _ _ rfl 56 (by decide) (show (0 : Nat) < 2 by decide)
theorem xm_t97 (hM : xa_Mok xm_I M) (j : Int) (h0 : 0 ≤ j) (h1 : j < 20) : 0 ≤ M 97 j ∧ M 97 j ≤ 9999 := by
  obtain ⟨n, rfl⟩ := Int.eq_ofNat_of_zero_le h0
  exact hM 97 _ _ rfl n (show n < 20 by omega) (show (0 : Nat) < 2 by decide)
theorem xm_t98 (hM : xa_Mok xm_I M) (j : Int) (h0 : 0 ≤ j) (h1 : j < 20) : 0 ≤ M 98 j ∧ M 98 j ≤ 1 := by
  obtain ⟨n, rfl⟩ := Int.eq_ofNat_of_zero_le h0
  exact hM 98 _ _ rfl n (show n < 20 by omega) (show (0 : Nat) < 2 by decide)
theorem xm_f59 (hM : xa_Mok xm_I M) : 0 ≤ M 60 59 ∧ M 60 59 ≤ 8 := hM 60 _ _ rfl 59 (by decide) (show (0 : Nat) < 2 by decide)
theorem xm_f61 (hM : xa_Mok xm_I M) : 0 ≤ M 60 61 ∧ M 60 61 ≤ 12 := hM 60 _ _ rfl 61 (by decide) (show (0 : Nat) < 2 by decide)
theorem xm_t105 (hM : xa_Mok xm_I M) (j : Int) (h0 : 0 ≤ j) (h1 : j < 4) : 0 ≤ M 105 j ∧ M 105 j ≤ 1 := by
  obtain ⟨n, rfl⟩ := Int.eq_ofNat_of_zero_le h0
  exact hM 105 _ _ rfl n (show n < 4 by omega) (show (0 : Nat) < 2 by decide)
abbrev xm_scr (q : Nat) (j : Int) : Prop := (74 ≤ q ∧ q ≤ 95) ∨ (q = 60 ∧ ((20 ≤ j ∧ j ≤ 53) ∨ j = 68))
/-- the lasting cells are the same -/
def xm_cor (M M' : xa_M) : Prop := ∀ q j, ¬ xm_scr q j → M' q j = M q j
theorem xm_cor_r : xm_cor M M := fun _ _ _ => rfl
theorem xm_cor_t (h : xm_cor M M1) (h2 : xm_cor M1 M2) : xm_cor M M2 := fun q j hn => (h2 q j hn).trans (h q j hn)
theorem xm_cor_u {q : Nat} {j v : Int} (hs : xm_scr q j) (h : xm_cor M M1) : xm_cor M (xa_up M1 q j v) := by
  intro q' j' hn
  rw [xa_up_ne (fun e => hn (by rw [e.1, e.2]; exact hs))]
  exact h q' j' hn
theorem xm_cor_a {q : Nat} {j v : Int} (hq : (Nat.ble 74 q && Nat.ble q 95) = true) (h : xm_cor M M1) : xm_cor M (xa_up M1 q j v) := by
  rw [Bool.and_eq_true, Nat.ble_eq, Nat.ble_eq] at hq
  exact xm_cor_u (Or.inl hq) h
theorem xm_cor_f {j v : Int} (hj : (20 ≤ j ∧ j ≤ 53) ∨ j = 68) (h : xm_cor M M1) : xm_cor M (xa_up M1 60 j v) := xm_cor_u (Or.inr ⟨rfl, hj⟩) h
theorem xm_corq (h : xm_cor M M1) (q : Nat) (hq : (Nat.ble 61 q && (Nat.ble q 73 || Nat.ble 96 q)) = true) (j : Int) : M1 q j = M q j := by
  rw [Bool.and_eq_true, Bool.or_eq_true, Nat.ble_eq, Nat.ble_eq, Nat.ble_eq] at hq
  exact h q j (fun h => by omega)
theorem xm_corf (h : xm_cor M M1) (j : Int) (hj : ¬ ((20 ≤ j ∧ j ≤ 53) ∨ j = 68)) : M1 60 j = M 60 j := h 60 j (fun h => by omega)
/-- a kept build is one -/
def xm_bld (M : xa_M) (i : Int) : Prop := (0 ≤ M 104 (124 * i) ∧ M 104 (124 * i) ≤ 14) ∧ (∀ w, 0 ≤ w → w < 14 → (0 ≤ M 104 (124 * i + 1 + 5 * w) ∧ M 104 (124 * i + 1 + 5 * w) ≤ 400) ∧ (0 ≤ M 104 (124 * i + 2 + 5 * w) ∧ M 104 (124 * i + 2 + 5 * w) ≤ 400) ∧ (0 ≤ M 104 (124 * i + 3 + 5 * w) ∧ M 104 (124 * i + 3 + 5 * w) ≤ 400) ∧ (0 ≤ M 104 (124 * i + 4 + 5 * w) ∧ M 104 (124 * i + 4 + 5 * w) ≤ 9) ∧ (0 ≤ M 104 (124 * i + 5 + 5 * w) ∧ M 104 (124 * i + 5 + 5 * w) ≤ 9) ∧ (w < M 104 (124 * i) → 10 ≤ M 104 (124 * i + 1 + 5 * w) ∧ M 104 (124 * i + 1 + 5 * w) ≤ M 104 (124 * i + 2 + 5 * w) ∧ 10 ≤ M 104 (124 * i + 3 + 5 * w))) ∧
  (0 ≤ M 104 (124 * i + 71) ∧ M 104 (124 * i + 71) ≤ 16) ∧ (∀ m, 0 ≤ m → m < 16 → (0 ≤ M 104 (124 * i + 72 + 2 * m) ∧ M 104 (124 * i + 72 + 2 * m) ≤ 13) ∧ (0 ≤ M 104 (124 * i + 73 + 2 * m) ∧ M 104 (124 * i + 73 + 2 * m) ≤ 13) ∧ (m < M 104 (124 * i + 71) → M 104 (124 * i + 72 + 2 * m) < M 104 (124 * i) ∧ M 104 (124 * i + 73 + 2 * m) < M 104 (124 * i))) ∧
  ∀ a, 0 ≤ a → a < 10 → (-500 ≤ M 104 (124 * i + 104 + 2 * a) ∧ M 104 (124 * i + 104 + 2 * a) ≤ 500) ∧ (-500 ≤ M 104 (124 * i + 105 + 2 * a) ∧ M 104 (124 * i + 105 + 2 * a) ≤ 500)
/-- what holds between calls, besides the cells' bounds -/
def xm_Inv (M : xa_M) : Prop := (∀ w, 0 ≤ w → w < M 60 0 → 10 ≤ M 61 w ∧ M 61 w ≤ M 62 w ∧ 10 ≤ M 63 w) ∧ (∀ m, 0 ≤ m → m < M 60 6 → M 66 m < M 60 0 ∧ M 67 m < M 60 0) ∧ (∀ p, 0 ≤ p → p < M 60 11 → 1 ≤ M 70 p ∧ 1 ≤ M 71 p) ∧ M 60 15 ≤ M 60 16 ∧ ∀ i, 0 ≤ i → i < 4 → M 105 i = 1 → xm_bld M i
theorem xm_Inv_cor (h : xm_cor M M1) (hI : xm_Inv M) : xm_Inv M1 := by
  have e0 := xm_corf h 0 (by omega)
  have e6 := xm_corf h 6 (by omega)
  have e11 := xm_corf h 11 (by omega)
  have e15 := xm_corf h 15 (by omega)
  have e16 := xm_corf h 16 (by omega)
  have a := fun q hq j => xm_corq h q hq j
  obtain ⟨h1, h2, h3, h4, h5⟩ := hI
  refine ⟨fun w w0 w1 => ?_, fun m m0 m1 => ?_, fun p p0 p1 => ?_, ?_, fun i i0 i1 i2 => ?_⟩
  · rw [a 61 rfl, a 62 rfl, a 63 rfl]
    exact h1 w w0 (by omega)
  · rw [a 66 rfl, a 67 rfl, e0]
    exact h2 m m0 (by omega)
  · rw [a 70 rfl, a 71 rfl]
    exact h3 p p0 (by omega)
  · omega
  · rw [a 105 rfl] at i2
    have := h5 i i0 i1 i2
    unfold xm_bld at this ⊢
    simp only [a 104 rfl]
    exact this
end XM
theorem xa_C_asm {I : xa_I} {A : Nat → Nat} {h0 : g_H} {d j : Nat} {vs : List xa_V} {M : xa_M} {post : Option xa_V → xa_M → Prop} (k : xa_Mok I M → (∀ v ∈ vs, xa_vok v) → xa_C I A h0 d j vs M post) : xa_C I A h0 d j vs M post := by
  intro h xs hH hA post' hp
  have hvs : ∀ {vs : List xa_V} {xs : List Value}, xa_gS A vs xs → ∀ v ∈ vs, xa_vok v := by
    intro vs
    induction vs with
    | nil => intro xs _ v hv; cases hv
    | cons w ws ih =>
      intro xs hS v hv
      obtain ⟨x, ys, rfl, hg, hS'⟩ := xa_gS_cons hS
      rcases List.mem_cons.mp hv with rfl | hv
      · exact fun hk => xa_num hk hg
      · exact ih hS' v hv
  exact k (xa_H_Mok hH) (hvs hA) h xs hH hA post' hp
theorem xa_C_mok {I : xa_I} {A : Nat → Nat} {h0 : g_H} {d j : Nat} {vs : List xa_V} {M : xa_M} {post : Option xa_V → xa_M → Prop} (k : xa_C I A h0 d j vs M (fun o M' => xa_Mok I M' → post o M')) : xa_C I A h0 d j vs M post := fun h xs hH hA post' hp => k h xs hH hA post' (fun v M' x h' hv hx hH' => hp v M' x h' (hv (xa_H_Mok hH')) hx hH')
theorem xa_v1 {v : xa_V} {vs : List xa_V} (h : ∀ w ∈ v :: vs, xa_vok w) : xa_vok v := h _ List.mem_cons_self
theorem xa_v2 {v u : xa_V} {vs : List xa_V} (h : ∀ w ∈ u :: v :: vs, xa_vok w) : xa_vok v := h _ (List.mem_cons_of_mem _ List.mem_cons_self)
theorem ct_gcd1 {A : Nat → Nat} {h0 : g_H} {d : Nat} {M : xa_M} {post : Option xa_V → xa_M → Prop} {I : xa_I} {l1 u1 l2 u2 x y : Int} (hl1 : -9223372036854775808 < l1) (hl2 : -9223372036854775808 < l2) (hy1 : 1 ≤ y) (k : ∀ g : Int, g = (Int.gcd x y : Int) → 1 ≤ g → g ≤ y → post (some (1, 0, 1, 9223372036854775807, g)) M) : xa_C I A h0 (d + 2) 229 [(1, 0, l1, u1, x), (1, 0, l2, u2, y)] M post := by
  refine xa_C_asm (fun hM hv => ?_)
  have v1 : l1 ≤ x ∧ x ≤ u1 := xa_v1 hv (show (1 : Nat) < 2 by decide)
  have v2 : l2 ≤ y ∧ y ≤ u2 := xa_v2 hv (show (1 : Nat) < 2 by decide)
  refine xa_C_arg [(1, 0, -9223372036854775807, 9223372036854775807, x), (1, 0, -9223372036854775807, 9223372036854775807, y)] (xa_svL (fun _ _ _ _ => by omega) (xa_svL (fun _ _ _ _ => by omega) xa_sv0)) (xa_C_asm (fun _ hv => ?_))
  have v3 : -9223372036854775807 ≤ y ∧ y ≤ 9223372036854775807 := xa_v2 hv (show (1 : Nat) < 2 by decide)
  have hd : ((Int.gcd x y : Nat) : Int) ∣ y := Int.gcd_dvd_right ..
  have hle := Int.le_of_dvd (by omega) hd
  have hpos : 1 ≤ ((Int.gcd x y : Nat) : Int) := by
    rcases Nat.eq_zero_or_pos (Int.gcd x y) with h | h
    · obtain ⟨c, hc⟩ := hd
      rw [h] at hc
      simp at hc
      omega
    · omega
  exact ct_gcd (lo := 1) (hi := 9223372036854775807) (by omega) (by omega) rfl ⟨by omega, by omega⟩ (k _ rfl hpos hle)
theorem ct_absb {A : Nat → Nat} {h0 : g_H} {d : Nat} {M : xa_M} {post : Option xa_V → xa_M → Prop} {I : xa_I} {l u x : Int} (hi : Int) (hl : -9223372036854775808 < l) (h1 : -hi ≤ l) (h2 : u ≤ hi) (k : ∀ r : Int, r = (x.natAbs : Int) → post (some (1, 0, 0, hi, r)) M) : xa_C I A h0 (d + 1) 56 [(1, 0, l, u, x)] M post := by
  refine xa_C_asm (fun hM hv => ?_)
  have v1 : l ≤ x ∧ x ≤ u := xa_v1 hv (show (1 : Nat) < 2 by decide)
  exact ct_abs (by omega) (fun r e => ⟨by omega, k r e⟩)
end
section
-- the model's turns (made by wip/p24/xa/xm2.py)
set_option maxRecDepth 20000
def xm_meshed (M : xa_M) (a b : Int) : Prop := ∃ m, 0 ≤ m ∧ m < M 60 6 ∧ (M 66 m = a ∧ M 67 m = b ∨ M 66 m = b ∧ M 67 m = a)
def xm_led (M : xa_M) (a b c u l : Int) : Prop := ∃ g : Int, g = (Int.gcd (-(M 75 a) * M 63 b) (M 76 a * M 63 c) : Int) ∧ u = (-(M 75 a) * M 63 b).tdiv g ∧ l = (M 76 a * M 63 c) / g
theorem xm_mulb {p q : Int} (h1 : -1000000000000000 ≤ p) (h2 : p ≤ 1000000000000000) (h3 : 0 ≤ q) (h4 : q ≤ 400) : -400000000000000000 ≤ p * q ∧ p * q ≤ 400000000000000000 := xa_mul_ok h1 h2 h3 h4
theorem xm_tdb {x g B : Int} (hg : 1 ≤ g) (h1 : -B ≤ x) (h2 : x ≤ B) : -B ≤ x.tdiv g ∧ x.tdiv g ≤ B := by
  obtain ⟨d1, d2, -⟩ := xa_tdv (m := x) (n := g) (B := B + 1) (by omega) (by omega) (by omega)
  have e := Int.natAbs_tdiv_le_natAbs x g
  omega
theorem xm_edb {y g B : Int} (hg : 1 ≤ g) (h : g ≤ y) (h2 : y ≤ B) : 1 ≤ y / g ∧ y / g ≤ B := by
  have e1 := Int.le_ediv_of_mul_le (show 0 < g by omega) (show 1 * g ≤ y by omega)
  have e2 := Int.ediv_le_self g (show 0 ≤ y by omega)
  omega
theorem ct_areMeshed {A : Nat → Nat} {h0 : g_H} {d : Nat} {M : xa_M} {post : Option xa_V → xa_M → Prop} {l1 u1 l2 u2 : Int} {a b : Int} (k : ∀ r : Int, (r = 0 ∨ r = 1) → (r = 1 ↔ xm_meshed M a b) → post (some (0, 0, 0, 1, r)) M) : xa_C xm_I A h0 (d + 1) 221 [(2, 60, 0, 0, 0), (0, 0, l1, u1, a), (0, 0, l2, u2, b)] M post := by
  refine xa_C_arg [(2, 60, 0, 0, 0), (0, 0, (-2147483648), 2147483647, a), (0, 0, (-2147483648), 2147483647, b)] (xa_svR (xa_svI (fun _ _ _ _ => by omega) (xa_svI (fun _ _ _ _ => by omega) xa_sv0))) (xa_C_wk ?_)
  refine xa_meth (Q0 := (4, 2, false, 0, 0, 12)) (by decide +kernel) ⟨rfl, rfl⟩ (full := s_c_221) rfl rfl ?_
  intro hM hv Q hgo
  have b6 := xm_f6 hM
  have loop : ∀ (n : Nat) (m : Int), 0 ≤ m → m ≤ 16 → (∀ i, 0 ≤ i → i < m → ¬ (M 66 i = a ∧ M 67 i = b ∨ M 66 i = b ∧ M 67 i = a)) → 16 - m < (n : Int) → Q 2 [(3, (0, 0, 0, 16, m)), (0, (2, 60, 0, 0, 0)), (1, (0, 0, (-2147483648), 2147483647, a)), (2, (0, 0, (-2147483648), 2147483647, b))] [] M := by
    intro n
    induction n with
    | zero => intro m h1 h2 hno hms; omega
    | succ n ih =>
      intro m h1 h2 hno hms
      refine hgo.1 35 [2] 2 _ _ _ ?_
      refine And.intro ?_ ?_
      · intro (c1 : (M 60 6) ≤ m)
        show xa_wk post (some (0, 0, 0, 0, 0)) M
        exact xa_wkI 0 rfl (fun _ _ => by omega) (k 0 (Or.inl rfl) (iff_of_false (by decide) (fun ⟨i, i1, i2, i3⟩ => hno i i1 (by omega) i3)))
      · intro (c1 : m < (M 60 6))
        refine And.intro (show 0 ≤ m ∧ m < 16 by omega) ?_
        refine And.intro ?_ ?_
        · intro (c2 : ¬ (M 66 m) = a)
          refine And.intro (show 0 ≤ m ∧ m < 16 by omega) ?_
          refine And.intro ?_ ?_
          · intro (c3 : ¬ (M 66 m) = b)
            show Q 2 [(3, (0, 0, 1, 17, m + 1)), (0, (2, 60, 0, 0, 0)), (1, (0, 0, (-2147483648), 2147483647, a)), (2, (0, 0, (-2147483648), 2147483647, b))] [] M
            refine hgo.2.1 2 _ [(3, (0, 0, 0, 16, m + 1)), (0, (2, 60, 0, 0, 0)), (1, (0, 0, (-2147483648), 2147483647, a)), (2, (0, 0, (-2147483648), 2147483647, b))] _ _ (xa_subI rfl rfl (fun _ _ _ _ => by omega) (xa_subR rfl (xa_subI rfl rfl (fun _ _ _ _ => by omega) (xa_subI rfl rfl (fun _ _ _ _ => by omega) xa_sub0)))) ?_
            exact ih (m + 1) (by omega) (by omega) (fun i i1 i2 => by
              by_cases e : i = m
              · subst e
                omega
              · exact hno i i1 (by omega)) (by omega)
          · intro (c3 : (M 66 m) = b)
            refine And.intro (show 0 ≤ m ∧ m < 16 by omega) ?_
            refine And.intro ?_ ?_
            · intro (c4 : ¬ (M 67 m) = a)
              show Q 2 [(3, (0, 0, 1, 17, m + 1)), (0, (2, 60, 0, 0, 0)), (1, (0, 0, (-2147483648), 2147483647, a)), (2, (0, 0, (-2147483648), 2147483647, b))] [] M
              refine hgo.2.1 2 _ [(3, (0, 0, 0, 16, m + 1)), (0, (2, 60, 0, 0, 0)), (1, (0, 0, (-2147483648), 2147483647, a)), (2, (0, 0, (-2147483648), 2147483647, b))] _ _ (xa_subI rfl rfl (fun _ _ _ _ => by omega) (xa_subR rfl (xa_subI rfl rfl (fun _ _ _ _ => by omega) (xa_subI rfl rfl (fun _ _ _ _ => by omega) xa_sub0)))) ?_
              exact ih (m + 1) (by omega) (by omega) (fun i i1 i2 => by
                by_cases e : i = m
                · subst e
                  omega
                · exact hno i i1 (by omega)) (by omega)
            · intro (c4 : (M 67 m) = a)
              show xa_wk post (some (0, 0, 1, 1, 1)) M
              exact xa_wkI 1 rfl (fun _ _ => by omega) (k 1 (Or.inr rfl) (iff_of_true rfl ⟨m, by omega, by omega, by omega⟩))
        · intro (c2 : (M 66 m) = a)
          refine And.intro (show 0 ≤ m ∧ m < 16 by omega) ?_
          refine And.intro ?_ ?_
          · intro (c5 : (M 67 m) = b)
            show xa_wk post (some (0, 0, 1, 1, 1)) M
            exact xa_wkI 1 rfl (fun _ _ => by omega) (k 1 (Or.inr rfl) (iff_of_true rfl ⟨m, by omega, by omega, by omega⟩))
          · intro (c5 : ¬ (M 67 m) = b)
            refine And.intro (show 0 ≤ m ∧ m < 16 by omega) ?_
            refine And.intro ?_ ?_
            · intro (c6 : ¬ (M 66 m) = b)
              show Q 2 [(3, (0, 0, 1, 17, m + 1)), (0, (2, 60, 0, 0, 0)), (1, (0, 0, (-2147483648), 2147483647, a)), (2, (0, 0, (-2147483648), 2147483647, b))] [] M
              refine hgo.2.1 2 _ [(3, (0, 0, 0, 16, m + 1)), (0, (2, 60, 0, 0, 0)), (1, (0, 0, (-2147483648), 2147483647, a)), (2, (0, 0, (-2147483648), 2147483647, b))] _ _ (xa_subI rfl rfl (fun _ _ _ _ => by omega) (xa_subR rfl (xa_subI rfl rfl (fun _ _ _ _ => by omega) (xa_subI rfl rfl (fun _ _ _ _ => by omega) xa_sub0)))) ?_
              exact ih (m + 1) (by omega) (by omega) (fun i i1 i2 => by
                by_cases e : i = m
                · subst e
                  omega
                · exact hno i i1 (by omega)) (by omega)
            · intro (c6 : (M 66 m) = b)
              refine And.intro (show 0 ≤ m ∧ m < 16 by omega) ?_
              refine And.intro ?_ ?_
              · intro (c7 : ¬ (M 67 m) = a)
                show Q 2 [(3, (0, 0, 1, 17, m + 1)), (0, (2, 60, 0, 0, 0)), (1, (0, 0, (-2147483648), 2147483647, a)), (2, (0, 0, (-2147483648), 2147483647, b))] [] M
                refine hgo.2.1 2 _ [(3, (0, 0, 0, 16, m + 1)), (0, (2, 60, 0, 0, 0)), (1, (0, 0, (-2147483648), 2147483647, a)), (2, (0, 0, (-2147483648), 2147483647, b))] _ _ (xa_subI rfl rfl (fun _ _ _ _ => by omega) (xa_subR rfl (xa_subI rfl rfl (fun _ _ _ _ => by omega) (xa_subI rfl rfl (fun _ _ _ _ => by omega) xa_sub0)))) ?_
                exact ih (m + 1) (by omega) (by omega) (fun i i1 i2 => by
                  by_cases e : i = m
                  · subst e
                    omega
                  · exact hno i i1 (by omega)) (by omega)
              · intro (c7 : (M 67 m) = a)
                show xa_wk post (some (0, 0, 1, 1, 1)) M
                exact xa_wkI 1 rfl (fun _ _ => by omega) (k 1 (Or.inr rfl) (iff_of_true rfl ⟨m, by omega, by omega, by omega⟩))
  refine hgo.1 7 [2] 0 _ _ _ ?_
  show Q 2 [(3, (0, 0, 0, 0, 0)), (0, (2, 60, 0, 0, 0)), (1, (0, 0, (-2147483648), 2147483647, a)), (2, (0, 0, (-2147483648), 2147483647, b))] [] M
  refine hgo.2.1 2 _ [(3, (0, 0, 0, 16, 0)), (0, (2, 60, 0, 0, 0)), (1, (0, 0, (-2147483648), 2147483647, a)), (2, (0, 0, (-2147483648), 2147483647, b))] _ _ (xa_subI rfl rfl (fun _ _ _ _ => by omega) (xa_subR rfl (xa_subI rfl rfl (fun _ _ _ _ => by omega) (xa_subI rfl rfl (fun _ _ _ _ => by omega) xa_sub0)))) ?_
  exact loop 17 0 (by omega) (by omega) (fun i i1 i2 => by omega) (by omega)
theorem ct_tellPart {A : Nat → Nat} {h0 : g_H} {d : Nat} {M : xa_M} {post : Option xa_V → xa_M → Prop} {l1 u1 l2 u2 a b n : Int} (hn : M 60 20 = n) (h1 : 0 ≤ n) (h2 : n < 31) (hl1 : -9223372036854775808 < l1) (hb : 1 ≤ b) (k : ∀ g : Int, g = (Int.gcd a b : Int) → 1 ≤ g → g ≤ b → post none (xa_up (xa_up (xa_up (xa_up M 74 n (a.tdiv g)) 60 20 (n + 1)) 74 (n + 1) (b.tdiv g)) 60 20 (n + 1 + 1))) : xa_C xm_I A h0 (d + 3) 230 [(2, 60, 0, 0, 0), (1, 0, l1, u1, a), (1, 0, l2, u2, b)] M post := by
  subst hn
  refine xa_C_arg [(2, 60, 0, 0, 0), (1, 0, (-9223372036854775807), 9223372036854775807, a), (1, 0, (-9223372036854775807), 9223372036854775807, b)] (xa_svR (xa_svL (fun _ _ _ _ => by omega) (xa_svL (fun _ _ _ _ => by omega) xa_sv0))) ?_
  refine xa_meth (Q0 := (7, 0, false, 0, 0, 12)) (by decide +kernel) ⟨rfl, rfl⟩ (full := s_c_230) rfl rfl ?_
  intro hM hv Q hgo
  refine hgo.1 19 [] 0 _ _ _ ?_
  show xa_C xm_I A h0 _ 229 [(1, 0, (-9223372036854775807), 9223372036854775807, a), (1, 0, (-9223372036854775807), 9223372036854775807, b)] M _
  refine ct_gcd1 (by decide) (by decide) (by omega) (fun g1 eg1 pg1 qg1 => ?_)
  show xa_C xm_I A h0 _ 231 [(2, 60, 0, 0, 0), (1, 0, (-9223372036854775808), 9223372036854775807, a.tdiv g1)] M _
  refine ct_tell (n := M 60 20) (by first | rfl | (simp [xa_up]; done) | omega) (by omega) (by omega) ?_
  show xa_C xm_I A h0 _ 231 [(2, 60, 0, 0, 0), (1, 0, (-9223372036854775808), 9223372036854775807, b.tdiv g1)] (xa_up (xa_up M 74 (M 60 20) (a.tdiv g1)) 60 20 ((M 60 20) + 1)) _
  refine ct_tell (n := (M 60 20) + 1) (by first | rfl | (simp [xa_up]; done) | omega) (by omega) (by omega) ?_
  show post none (xa_up (xa_up (xa_up (xa_up M 74 (M 60 20) (a.tdiv g1)) 60 20 ((M 60 20) + 1)) 74 ((M 60 20) + 1) (b.tdiv g1)) 60 20 (((M 60 20) + 1) + 1))
  exact k _ eg1 pg1 qg1
theorem ct_lead {A : Nat → Nat} {h0 : g_H} {d : Nat} {M : xa_M} {post : Option xa_V → xa_M → Prop} {l1 u1 l2 u2 l3 u3 a b c : Int} (hl1 : 0 ≤ l1) (hu1 : u1 ≤ 9) (hl2 : 0 ≤ l2) (hu2 : u2 ≤ 13) (hl3 : 0 ≤ l3) (hu3 : u3 ≤ 13) (h1 : 1 ≤ M 76 a) (h2 : 1 ≤ M 63 c) (k : ∀ u l : Int, (-400000000000000000 ≤ u ∧ u ≤ 400000000000000000) → (1 ≤ l ∧ l ≤ 400000000000000000) → xm_led M a b c u l → post none (xa_up (xa_up M 60 25 u) 60 26 l)) : xa_C xm_I A h0 (d + 3) 228 [(2, 60, 0, 0, 0), (0, 0, l1, u1, a), (0, 0, l2, u2, b), (0, 0, l3, u3, c)] M post := by
  refine xa_C_asm (fun hM hv => ?_)
  have va : l1 ≤ a ∧ a ≤ u1 := xa_v2 hv (show (0 : Nat) < 2 by decide)
  have vb : l2 ≤ b ∧ b ≤ u2 := hv _ (List.mem_cons_of_mem _ (List.mem_cons_of_mem _ List.mem_cons_self)) (show (0 : Nat) < 2 by decide)
  have vc : l3 ≤ c ∧ c ≤ u3 := hv _ (List.mem_cons_of_mem _ (List.mem_cons_of_mem _ (List.mem_cons_of_mem _ List.mem_cons_self))) (show (0 : Nat) < 2 by decide)
  refine xa_C_arg [(2, 60, 0, 0, 0), (0, 0, 0, 9, a), (0, 0, 0, 13, b), (0, 0, 0, 13, c)] (xa_svR (xa_svI (fun _ _ _ _ => by omega) (xa_svI (fun _ _ _ _ => by omega) (xa_svI (fun _ _ _ _ => by omega) xa_sv0)))) ?_
  have t75 := xm_t75 hM a (by omega) (by omega)
  have t76 := xm_t76 hM a (by omega) (by omega)
  have t63b := xm_t63 hM b (by omega) (by omega)
  have t63c := xm_t63 hM c (by omega) (by omega)
  have hx := xm_mulb (p := -(M 75 a)) (q := M 63 b) (by omega) (by omega) (by omega) (by omega)
  have hy2 := xm_mulb (p := M 76 a) (q := M 63 c) (by omega) (by omega) (by omega) (by omega)
  have hy : 1 ≤ M 76 a * M 63 c := by
    have := Int.mul_pos (show 0 < M 76 a by omega) (show 0 < M 63 c by omega)
    omega
  refine xa_meth (Q0 := (10, 0, false, 0, 0, 12)) (by decide +kernel) ⟨rfl, rfl⟩ (full := s_c_228) rfl rfl ?_
  intro hM hv Q hgo
  refine hgo.1 42 [] 0 _ _ _ ?_
  show xa_C xm_I A h0 _ 229 [(1, 0, (-400000000000000000), 400000000000000000, (-(M 75 a)) * (M 63 b)), (1, 0, 0, 400000000000000000, (M 76 a) * (M 63 c))] M _
  refine ct_gcd1 (by decide) (by decide) (by omega) (fun g1 eg1 pg1 qg1 => ?_)
  refine And.intro (show (-400000000000000000) ≤ (((-(M 75 a)) * (M 63 b)).tdiv g1) ∧ (((-(M 75 a)) * (M 63 b)).tdiv g1) ≤ 400000000000000000 by (exact xm_tdb (by omega) hx.1 hx.2)) ?_
  show post none (xa_up (xa_up M 60 25 (((-(M 75 a)) * (M 63 b)).tdiv g1)) 60 26 (((M 76 a) * (M 63 c)) / g1))
  have dl := xm_edb (g := g1) (y := M 76 a * M 63 c) (by omega) (by omega) hy2.2
  exact k _ _ (xm_tdb (by omega) hx.1 hx.2) dl ⟨_, eg1, rfl, rfl⟩
end
section
-- the model's turns, found (made by wip/p24/xa/xm3.py)
set_option maxRecDepth 20000
def xm_trn (M : xa_M) : Prop := ∀ b, 0 ≤ b → b < 10 → M 77 b = 1 → 1 ≤ M 76 b
def xm_R (M : xa_M) : Int := M 77 0 + M 77 1 + M 77 2 + M 77 3 + M 77 4 + M 77 5 + M 77 6 + M 77 7 + M 77 8 + M 77 9
theorem xm_R_c {M M' : xa_M} (h : ∀ j, M' 77 j = M 77 j) : xm_R M' = xm_R M := by
  unfold xm_R
  simp only [h]
theorem xm_R_up {M : xa_M} {t : Int} (h0 : 0 ≤ t) (h1 : t < 10) (h : M 77 t = 0) : xm_R (xa_up M 77 t 1) = xm_R M + 1 := by
  rcases (show t = 0 ∨ t = 1 ∨ t = 2 ∨ t = 3 ∨ t = 4 ∨ t = 5 ∨ t = 6 ∨ t = 7 ∨ t = 8 ∨ t = 9 by omega) with e | e | e | e | e | e | e | e | e | e <;> subst e <;> simp [xm_R, xa_up] <;> omega
theorem xm_R_le {M : xa_M} (hM : xa_Mok xm_I M) : 0 ≤ xm_R M ∧ xm_R M ≤ 10 := by
  have t := xm_t77 hM
  have t0 := t 0 (by omega) (by omega)
  have t1 := t 1 (by omega) (by omega)
  have t2 := t 2 (by omega) (by omega)
  have t3 := t 3 (by omega) (by omega)
  have t4 := t 4 (by omega) (by omega)
  have t5 := t 5 (by omega) (by omega)
  have t6 := t 6 (by omega) (by omega)
  have t7 := t 7 (by omega) (by omega)
  have t8 := t 8 (by omega) (by omega)
  have t9 := t 9 (by omega) (by omega)
  unfold xm_R
  omega
theorem xm_msh {M : xa_M} (hM : xa_Mok xm_I M) (hI : xm_Inv M) {m : Int} (h0 : 0 ≤ m) (h1 : m < M 60 6) : (0 ≤ M 66 m ∧ M 66 m ≤ 13) ∧ (0 ≤ M 67 m ∧ M 67 m ≤ 13) ∧ (0 ≤ M 64 (M 66 m) ∧ M 64 (M 66 m) ≤ 9) ∧ (0 ≤ M 64 (M 67 m) ∧ M 64 (M 67 m) ≤ 9) ∧ 10 ≤ M 63 (M 66 m) ∧ 10 ≤ M 63 (M 67 m) ∧ (0 ≤ M 77 (M 64 (M 66 m)) ∧ M 77 (M 64 (M 66 m)) ≤ 1) ∧ (0 ≤ M 77 (M 64 (M 67 m)) ∧ M 77 (M 64 (M 67 m)) ≤ 1) ∧ m < 16 := by
  have b6 := xm_f6 hM
  have a := xm_t66 hM m h0 (by omega)
  have b := xm_t67 hM m h0 (by omega)
  have c := hI.2.1 m h0 h1
  have e := xm_t64 hM _ a.1 (by omega)
  have f := xm_t64 hM _ b.1 (by omega)
  have g := hI.1 _ a.1 c.1
  have h := hI.1 _ b.1 c.2
  have i := xm_t77 hM _ e.1 (by omega)
  have j := xm_t77 hM _ f.1 (by omega)
  exact ⟨a, b, e, f, g.2.2, h.2.2, i, j, by omega⟩
def xm_ldU (M : xa_M) (a b c : Int) : Int := (-(M 75 a) * M 63 b).tdiv (Int.gcd (-(M 75 a) * M 63 b) (M 76 a * M 63 c) : Int)
def xm_ldL (M : xa_M) (a b c : Int) : Int := (M 76 a * M 63 c) / (Int.gcd (-(M 75 a) * M 63 b) (M 76 a * M 63 c) : Int)
theorem xm_led_eq {M : xa_M} {a b c u l : Int} (h : xm_led M a b c u l) : u = xm_ldU M a b c ∧ l = xm_ldL M a b c := by
  obtain ⟨g, rfl, e1, e2⟩ := h
  exact ⟨e1, e2⟩
/-- the text of findTurns, on memories -/
def xm_sto (M : xa_M) (t u l : Int) : xa_M := xa_up (xa_up (xa_up (xa_up (xa_up M 60 25 u) 60 26 l) 75 t u) 76 t l) 77 t 1
def xm_put (z : Int) (M : xa_M) (a b c t : Int) : Option (Int × xa_M) := if 1000000000000000 < ((xm_ldU M a b c).natAbs : Int) ∨ 1000000000000000 < xm_ldL M a b c then none else some (1, xm_sto M t (xm_ldU M a b c) (xm_ldL M a b c))
def xm_stC (but m z : Int) (M : xa_M) : Option (Int × xa_M) := if m = but ∨ M 77 (M 64 (M 66 m)) = M 77 (M 64 (M 67 m)) then some (z, M) else if M 77 (M 64 (M 66 m)) = 0 then xm_put z M (M 64 (M 67 m)) (M 67 m) (M 66 m) (M 64 (M 66 m)) else xm_put z M (M 64 (M 66 m)) (M 66 m) (M 67 m) (M 64 (M 67 m))
def xm_fC (but : Int) : Nat → Int → Int → xa_M → Option (Int × xa_M)
  | 0, _, z, M => some (z, M)
  | n + 1, m, z, M => if m < M 60 6 then (match xm_stC but m z M with
    | none => none
    | some p => xm_fC but n (m + 1) p.1 p.2) else some (z, M)
def xm_fB (but : Int) : Nat → Int → xa_M → Option xa_M
  | 0, _, M => some M
  | n + 1, z, M => if z = 0 then some M else (match xm_fC but 17 0 0 M with
    | none => none
    | some p => xm_fB but n p.1 p.2)
def xm_bd (but : Int) (n : Nat) (o : Option (Int × xa_M)) : Option xa_M := match o with
  | none => none
  | some p => xm_fB but n p.1 p.2
def xm_fD (but : Int) : Nat → Int → Int → xa_M → Int × xa_M
  | 0, _, z, M => (z, M)
  | n + 1, m, z, M => if m < M 60 6 then (if m = but ∨ M 77 (M 64 (M 66 m)) = 0 ∨ M 77 (M 64 (M 67 m)) = 0 then xm_fD but n (m + 1) z M else xm_fD but n (m + 1) (if ¬ z = 0 ∨ ¬ xm_ldU M (M 64 (M 66 m)) (M 66 m) (M 67 m) = M 75 (M 64 (M 67 m)) ∨ ¬ xm_ldL M (M 64 (M 66 m)) (M 66 m) (M 67 m) = M 76 (M 64 (M 67 m)) then 1 else 0) (xa_up (xa_up M 60 25 (xm_ldU M (M 64 (M 66 m)) (M 66 m) (M 67 m))) 60 26 (xm_ldL M (M 64 (M 66 m)) (M 66 m) (M 67 m)))) else (z, M)
def xm_i77 : Nat → Int → xa_M → xa_M
  | 0, _, M => M
  | n + 1, b, M => if b < 10 then xm_i77 n (b + 1) (xa_up M 77 b (if b = 0 then 1 else 0)) else M
def xm_ini (M : xa_M) : xa_M := xa_up (xa_up (xm_i77 11 0 M) 75 0 1) 76 0 1
def xm_res (but : Int) (o : Option xa_M) (v : Int) (M' : xa_M) : Prop := match o with
  | none => v = -5
  | some M1 => v = (if (xm_fD but 17 0 0 M1).1 = 0 then 0 else -3) ∧ M' = (xm_fD but 17 0 0 M1).2
/-- what findTurns answers, what it leaves -/
def xm_FT (but : Int) (M : xa_M) (v : Int) (M' : xa_M) : Prop := xm_res but (xm_fB but 23 1 (xm_ini M)) v M'
theorem xm_fD_end {but m z : Int} {n : Nat} {M : xa_M} (h : ¬ m < M 60 6) : xm_fD but (n + 1) m z M = (z, M) := by
  rw [xm_fD, if_neg h]
theorem xm_fD_skip {but m z : Int} {n : Nat} {M : xa_M} (h : m < M 60 6) (h2 : m = but ∨ M 77 (M 64 (M 66 m)) = 0 ∨ M 77 (M 64 (M 67 m)) = 0) : xm_fD but (n + 1) m z M = xm_fD but n (m + 1) z M := by
  rw [xm_fD, if_pos h, if_pos h2]
theorem xm_fD_go {but m z u l z2 : Int} {n : Nat} {M : xa_M} (h : m < M 60 6) (h2 : ¬ (m = but ∨ M 77 (M 64 (M 66 m)) = 0 ∨ M 77 (M 64 (M 67 m)) = 0)) (hl : xm_led M (M 64 (M 66 m)) (M 66 m) (M 67 m) u l) (hz : z2 = if ¬ z = 0 ∨ ¬ u = M 75 (M 64 (M 67 m)) ∨ ¬ l = M 76 (M 64 (M 67 m)) then 1 else 0) : xm_fD but (n + 1) m z M = xm_fD but n (m + 1) z2 (xa_up (xa_up M 60 25 u) 60 26 l) := by
  obtain ⟨rfl, rfl⟩ := xm_led_eq hl
  rw [xm_fD, if_pos h, if_neg h2, hz]
theorem xm_fC_end {but m z : Int} {n : Nat} {M : xa_M} (h : ¬ m < M 60 6) : xm_fC but (n + 1) m z M = some (z, M) := by
  rw [xm_fC, if_neg h]
theorem xm_fC_skip {but m z : Int} {n : Nat} {M : xa_M} (h : m < M 60 6) (h2 : m = but ∨ M 77 (M 64 (M 66 m)) = M 77 (M 64 (M 67 m))) : xm_fC but (n + 1) m z M = xm_fC but n (m + 1) z M := by
  rw [xm_fC, if_pos h, xm_stC, if_pos h2]
theorem xm_fC_go {but m z u l a b c t : Int} {n : Nat} {M : xa_M} (h : m < M 60 6) (h2 : ¬ (m = but ∨ M 77 (M 64 (M 66 m)) = M 77 (M 64 (M 67 m)))) (hs : (M 77 (M 64 (M 66 m)) = 0 ∧ a = M 64 (M 67 m) ∧ b = M 67 m ∧ c = M 66 m ∧ t = M 64 (M 66 m)) ∨ (¬ M 77 (M 64 (M 66 m)) = 0 ∧ a = M 64 (M 66 m) ∧ b = M 66 m ∧ c = M 67 m ∧ t = M 64 (M 67 m))) (hl : xm_led M a b c u l) (h3 : ¬ (1000000000000000 < ((u.natAbs : Nat) : Int) ∨ 1000000000000000 < l)) : xm_fC but (n + 1) m z M = xm_fC but n (m + 1) 1 (xa_up (xa_up (xa_up (xa_up (xa_up M 60 25 u) 60 26 l) 75 t u) 76 t l) 77 t 1) := by
  obtain ⟨rfl, rfl⟩ := xm_led_eq hl
  rw [xm_fC, if_pos h, xm_stC, if_neg h2]
  rcases hs with ⟨e, rfl, rfl, rfl, rfl⟩ | ⟨e, rfl, rfl, rfl, rfl⟩
  · rw [if_pos e, xm_put, if_neg h3]
    rfl
  · rw [if_neg e, xm_put, if_neg h3]
    rfl
theorem xm_fC_no {but m z u l a b c t : Int} {n : Nat} {M : xa_M} (h : m < M 60 6) (h2 : ¬ (m = but ∨ M 77 (M 64 (M 66 m)) = M 77 (M 64 (M 67 m)))) (hs : (M 77 (M 64 (M 66 m)) = 0 ∧ a = M 64 (M 67 m) ∧ b = M 67 m ∧ c = M 66 m ∧ t = M 64 (M 66 m)) ∨ (¬ M 77 (M 64 (M 66 m)) = 0 ∧ a = M 64 (M 66 m) ∧ b = M 66 m ∧ c = M 67 m ∧ t = M 64 (M 67 m))) (hl : xm_led M a b c u l) (h3 : 1000000000000000 < ((u.natAbs : Nat) : Int) ∨ 1000000000000000 < l) : xm_fC but (n + 1) m z M = none := by
  obtain ⟨rfl, rfl⟩ := xm_led_eq hl
  rw [xm_fC, if_pos h, xm_stC, if_neg h2]
  rcases hs with ⟨e, rfl, rfl, rfl, rfl⟩ | ⟨e, rfl, rfl, rfl, rfl⟩
  · rw [if_pos e, xm_put, if_pos h3]
  · rw [if_neg e, xm_put, if_pos h3]
end
section
-- what rests on findTurns (made by wip/p24/xa/xm4.py)
set_option maxRecDepth 20000
theorem xa_w32_id {n : Int} (h1 : -2147483648 ≤ n) (h2 : n ≤ 2147483647) : xa_w32 n = n := by
  unfold xa_w32
  apply Int.bmod_eq_of_le <;> omega
theorem xa_w64_id {n : Int} (h1 : -9223372036854775808 ≤ n) (h2 : n ≤ 9223372036854775807) : xa_w64 n = n := by
  unfold xa_w64
  apply Int.bmod_eq_of_le <;> omega
theorem xm_mulc {p q : Int} (h1 : 0 ≤ p) (h2 : p ≤ 1000000000) (h3 : 0 ≤ q) (h4 : q ≤ 2000) : 0 ≤ p * q ∧ p * q ≤ 2000000000000 := xa_mul_ok h1 h2 h3 h4
end
section
-- two runs of findTurns over the same lasting cells leave the same turns; together (made by wip/p24/xa/xm5.py)
set_option maxRecDepth 20000
def xm_ag (M M' : xa_M) : Prop := xm_cor M M' ∧ ∀ b, 0 ≤ b → b < 10 → (M 77 b = 0 ∨ M 77 b = 1) ∧ M' 77 b = M 77 b ∧ (M 77 b = 1 → M' 75 b = M 75 b ∧ M' 76 b = M 76 b)
def xm_rng (M : xa_M) : Prop := ∀ m, 0 ≤ m → m < M 60 6 → (0 ≤ M 64 (M 66 m) ∧ M 64 (M 66 m) ≤ 9) ∧ (0 ≤ M 64 (M 67 m) ∧ M 64 (M 67 m) ≤ 9)
theorem xm_rng_c {M M' : xa_M} (h : xm_cor M M') (hr : xm_rng M) : xm_rng M' := by
  intro m h0 h1
  rw [xm_corf h 6 (by omega)] at h1
  rw [xm_corq h 66 rfl, xm_corq h 67 rfl, xm_corq h 64 rfl, xm_corq h 64 rfl]
  exact hr m h0 h1
theorem xm_ag_led {M M' : xa_M} (h : xm_ag M M') {a b c : Int} (h0 : 0 ≤ a) (h1 : a ≤ 9) (ha : M 77 a = 1) : xm_ldU M' a b c = xm_ldU M a b c ∧ xm_ldL M' a b c = xm_ldL M a b c := by
  obtain ⟨e1, e2⟩ := (h.2 a h0 (by omega)).2.2 ha
  unfold xm_ldU xm_ldL
  rw [e1, e2, xm_corq h.1 63 rfl, xm_corq h.1 63 rfl]
  exact ⟨rfl, rfl⟩
/-- both go wrong, or both go on alike -/
def xm_rl (o o' : Option (Int × xa_M)) : Prop := match o, o' with
  | none, none => True
  | some p, some p' => p'.1 = p.1 ∧ xm_ag p.2 p'.2 ∧ xm_cor p.2 p.2
  | _, _ => False
theorem xm_ag_sto {M M' : xa_M} (h : xm_ag M M') {t u l : Int} : xm_ag (xm_sto M t u l) (xm_sto M' t u l) := by
  refine ⟨fun q j hn => ?_, fun b b0 b1 => ?_⟩
  · unfold xm_sto xa_up
    have := h.1 q j hn
    simp only [this]
  · have hb := h.2 b b0 b1
    by_cases e : b = t
    · subst e
      simp [xm_sto, xa_up]
    · simp [xm_sto, xa_up, e]
      exact hb
theorem xm_put_rl {M M' : xa_M} (h : xm_ag M M') {z a b c t : Int} (h0 : 0 ≤ a) (h1 : a ≤ 9) (ha : M 77 a = 1) : xm_rl (xm_put z M a b c t) (xm_put z M' a b c t) := by
  obtain ⟨e1, e2⟩ := xm_ag_led h (b := b) (c := c) h0 h1 ha
  unfold xm_put
  rw [e1, e2]
  split
  · trivial
  · exact ⟨rfl, xm_ag_sto h, xm_cor_r⟩
theorem xm_stC_rl {M M' : xa_M} (h : xm_ag M M') (hr : xm_rng M) {but m z : Int} (h0 : 0 ≤ m) (h1 : m < M 60 6) : xm_rl (xm_stC but m z M) (xm_stC but m z M') := by
  obtain ⟨r1, r2⟩ := hr m h0 h1
  have g1 := h.2 _ r1.1 (by omega)
  have g2 := h.2 _ r2.1 (by omega)
  unfold xm_stC
  rw [xm_corq h.1 66 rfl, xm_corq h.1 67 rfl, xm_corq h.1 64 rfl, xm_corq h.1 64 rfl, g1.2.1, g2.2.1]
  split
  · exact ⟨rfl, h, xm_cor_r⟩
  · split
    · exact xm_put_rl h r2.1 r2.2 (by omega)
    · exact xm_put_rl h r1.1 r1.2 (by omega)
theorem xm_stC_cor {M : xa_M} {but m z : Int} {p : Int × xa_M} (h : xm_stC but m z M = some p) : xm_cor M p.2 := by
  have key : ∀ {a b c t : Int}, xm_put z M a b c t = some p → xm_cor M p.2 := by
    intro a b c t h
    unfold xm_put at h
    split at h
    · cases h
    · cases h
      exact xm_cor_a rfl (xm_cor_a rfl (xm_cor_a rfl (xm_cor_f (by omega) (xm_cor_f (by omega) xm_cor_r))))
  unfold xm_stC at h
  split at h
  · cases h
    exact xm_cor_r
  · split at h
    · exact key h
    · exact key h
theorem xm_fC_rl {but : Int} : ∀ (n : Nat) (m z : Int) (M M' : xa_M), xm_ag M M' → xm_rng M → 0 ≤ m → xm_rl (xm_fC but n m z M) (xm_fC but n m z M')
  | 0, _, _, _, _, h, _, _ => ⟨rfl, h, xm_cor_r⟩
  | n + 1, m, z, M, M', h, hr, h0 => by
    rw [xm_fC, xm_fC, xm_corf h.1 6 (by omega)]
    split
    next h1 =>
      have k := xm_stC_rl (but := but) (z := z) h hr h0 h1
      cases e1 : xm_stC but m z M with
      | none =>
        cases e2 : xm_stC but m z M' with
        | none => trivial
        | some p' => rw [e1, e2] at k; exact k.elim
      | some p =>
        cases e2 : xm_stC but m z M' with
        | none => rw [e1, e2] at k; exact k.elim
        | some p' =>
          rw [e1, e2] at k
          obtain ⟨k1, k2, -⟩ := k
          show xm_rl (xm_fC but n (m + 1) p.1 p.2) (xm_fC but n (m + 1) p'.1 p'.2)
          rw [k1]
          exact xm_fC_rl n (m + 1) p.1 p.2 p'.2 k2 (xm_rng_c (xm_stC_cor e1) hr) (by omega)
    next => exact ⟨rfl, h, xm_cor_r⟩
theorem xm_fC_cor {but : Int} : ∀ (n : Nat) (m z : Int) (M : xa_M) (p : Int × xa_M), xm_fC but n m z M = some p → xm_cor M p.2
  | 0, _, _, _, _, h => by cases h; exact xm_cor_r
  | n + 1, m, z, M, p, h => by
    rw [xm_fC] at h
    split at h
    · split at h
      next => cases h
      next p1 e1 => exact xm_cor_t (xm_stC_cor e1) (xm_fC_cor n _ _ _ _ h)
    · cases h
      exact xm_cor_r
def xm_rl1 (o o' : Option xa_M) : Prop := match o, o' with
  | none, none => True
  | some M, some M' => xm_ag M M' ∧ xm_rng M
  | _, _ => False
theorem xm_fB_rl {but : Int} : ∀ (n : Nat) (z : Int) (M M' : xa_M), xm_ag M M' → xm_rng M → xm_rl1 (xm_fB but n z M) (xm_fB but n z M')
  | 0, _, _, _, h, hr => ⟨h, hr⟩
  | n + 1, z, M, M', h, hr => by
    rw [xm_fB, xm_fB]
    split
    · exact ⟨h, hr⟩
    · have k := xm_fC_rl (but := but) 17 0 0 M M' h hr (by omega)
      cases e1 : xm_fC but 17 0 0 M with
      | none =>
        cases e2 : xm_fC but 17 0 0 M' with
        | none => trivial
        | some p' => rw [e1, e2] at k; exact k.elim
      | some p =>
        cases e2 : xm_fC but 17 0 0 M' with
        | none => rw [e1, e2] at k; exact k.elim
        | some p' =>
          rw [e1, e2] at k
          obtain ⟨k1, k2, -⟩ := k
          show xm_rl1 (xm_fB but n p.1 p.2) (xm_fB but n p'.1 p'.2)
          rw [k1]
          exact xm_fB_rl n p.1 p.2 p'.2 k2 (xm_rng_c (xm_fC_cor _ _ _ _ _ e1) hr)
theorem xm_fD_rl {but : Int} : ∀ (n : Nat) (m z : Int) (M M' : xa_M), xm_ag M M' → xm_rng M → 0 ≤ m → (xm_fD but n m z M').1 = (xm_fD but n m z M).1 ∧ xm_ag (xm_fD but n m z M).2 (xm_fD but n m z M').2
  | 0, _, _, _, _, h, _, _ => ⟨rfl, h⟩
  | n + 1, m, z, M, M', h, hr, h0 => by
    rw [xm_fD, xm_fD, xm_corf h.1 6 (by omega)]
    by_cases h1 : m < M 60 6
    · rw [if_pos h1, if_pos h1]
      obtain ⟨r1, r2⟩ := hr m h0 h1
      have g1 := h.2 _ r1.1 (by omega)
      have g2 := h.2 _ r2.1 (by omega)
      rw [xm_corq h.1 66 rfl, xm_corq h.1 67 rfl, xm_corq h.1 64 rfl, xm_corq h.1 64 rfl, g1.2.1, g2.2.1]
      by_cases h2 : m = but ∨ M 77 (M 64 (M 66 m)) = 0 ∨ M 77 (M 64 (M 67 m)) = 0
      · rw [if_pos h2, if_pos h2]
        exact xm_fD_rl n (m + 1) z M M' h hr (by omega)
      · rw [if_neg h2, if_neg h2]
        obtain ⟨e1, e2⟩ := xm_ag_led h (b := M 66 m) (c := M 67 m) r1.1 r1.2 (by omega)
        obtain ⟨f1, f2⟩ := g2.2.2 (by omega)
        rw [e1, e2, f1, f2]
        refine xm_fD_rl n (m + 1) _ _ _ ⟨fun q j hn => ?_, fun b b0 b1 => ?_⟩ (xm_rng_c (xm_cor_f (by omega) (xm_cor_f (by omega) xm_cor_r)) hr) (by omega)
        · have := h.1 q j hn
          simp only [xa_up, this]
        · have := h.2 b b0 b1
          simp [xa_up]
          exact this
    · rw [if_neg h1, if_neg h1]
      exact ⟨rfl, h⟩
theorem xm_i77_q : ∀ (n : Nat) (b : Int) (M : xa_M) (q : Nat) (j : Int), ¬ q = 77 → xm_i77 n b M q j = M q j
  | 0, _, _, _, _, _ => rfl
  | n + 1, b, M, q, j, h => by
    rw [xm_i77]
    split
    · rw [xm_i77_q n _ _ q j h, xa_up_ne (fun e => h e.1)]
    · rfl
theorem xm_i77_j : ∀ (n : Nat) (b : Int) (M : xa_M) (j : Int), b ≤ j → j < 10 → j - b < n → xm_i77 n b M 77 j = if j = 0 then 1 else 0
  | 0, _, _, _, h, _, h3 => by omega
  | n + 1, b, M, j, h, h2, h3 => by
    rw [xm_i77, if_pos (by omega)]
    by_cases e : j = b
    · subst e
      have key : ∀ (n : Nat) (b : Int) (M : xa_M), j < b → xm_i77 n b M 77 j = M 77 j := by
        intro n
        induction n with
        | zero => intro b M _; rfl
        | succ n ih =>
          intro b M hb
          rw [xm_i77]
          split
          · rw [ih _ _ (by omega), xa_up_ne (by omega)]
          · rfl
      rw [key _ _ _ (by omega), xa_up_eq]
    · exact xm_i77_j n (b + 1) _ j (by omega) h2 (by omega)
theorem xm_ini_ag {M M' : xa_M} (h : xm_cor M M') : xm_ag (xm_ini M) (xm_ini M') := by
  refine ⟨fun q j hn => ?_, fun b b0 b1 => ?_⟩
  · have e : ∀ N : xa_M, xm_ini N q j = N q j := fun N => by
      unfold xm_ini
      rw [xa_up_ne (fun e => hn (Or.inl (by omega))), xa_up_ne (fun e => hn (Or.inl (by omega))), xm_i77_q _ _ _ _ _ (fun e => hn (Or.inl (by omega)))]
    rw [e, e]
    exact h q j hn
  · have e7 : ∀ N : xa_M, xm_ini N 77 b = if b = 0 then 1 else 0 := fun N => by
      unfold xm_ini
      rw [xa_up_ne (by omega), xa_up_ne (by omega), xm_i77_j 11 0 N b b0 b1 (by omega)]
    rw [e7, e7]
    by_cases e : b = 0
    · subst e
      simp [xm_ini, xa_up]
    · simp [e]
theorem xm_FT_det {M M' N N' : xa_M} {but v v' : Int} (h : xm_cor M M') (hr : xm_rng M) (h1 : xm_FT but M v N) (h2 : xm_FT but M' v' N') : v' = v ∧ (¬ v = -5 → xm_ag N N') := by
  have hi : xm_rng (xm_ini M) := by
    refine xm_rng_c (M := M) (fun q j hn => ?_) hr
    unfold xm_ini
    rw [xa_up_ne (fun e => hn (Or.inl (by omega))), xa_up_ne (fun e => hn (Or.inl (by omega))), xm_i77_q _ _ _ _ _ (fun e => hn (Or.inl (by omega)))]
  have k := xm_fB_rl (but := but) 23 1 _ _ (xm_ini_ag h) hi
  unfold xm_FT at h1 h2
  cases e1 : xm_fB but 23 1 (xm_ini M) with
  | none =>
    rw [e1] at h1 k
    cases e2 : xm_fB but 23 1 (xm_ini M') with
    | none =>
      rw [e2] at h2
      have a1 : v = -5 := h1
      have a2 : v' = -5 := h2
      exact ⟨by omega, fun h => absurd a1 h⟩
    | some p' => rw [e2] at k; exact k.elim
  | some N1 =>
    rw [e1] at h1 k
    cases e2 : xm_fB but 23 1 (xm_ini M') with
    | none => rw [e2] at k; exact k.elim
    | some N2 =>
      rw [e2] at h2 k
      obtain ⟨k1, k2⟩ := xm_fD_rl (but := but) 17 0 0 N1 N2 k.1 k.2 (by omega)
      obtain ⟨a1, a2⟩ := h1
      obtain ⟨b1, b2⟩ := h2
      rw [k1] at b1
      rw [a2, b2]
      exact ⟨b1.trans a1.symm, fun _ => k2⟩
theorem xm_rng_I {M : xa_M} (hM : xa_Mok xm_I M) (hI : xm_Inv M) : xm_rng M := fun m h0 h1 => by
  have := xm_msh hM hI h0 h1
  exact ⟨this.2.2.1, this.2.2.2.1⟩
theorem xm_mul9 {p q : Int} (h1 : -1000000000 ≤ p) (h2 : p ≤ 1000000000) (h3 : -1000000000 ≤ q) (h4 : q ≤ 1000000000) : -1000000000000000000 ≤ p * q ∧ p * q ≤ 1000000000000000000 := xa_mul_ok h1 h2 h3 h4
theorem ct_gcd2 {A : Nat → Nat} {h0 : g_H} {d : Nat} {M : xa_M} {post : Option xa_V → xa_M → Prop} {I : xa_I} {l1 u1 l2 u2 x y : Int} (hx : -9223372036854775808 < x) (hy1 : 1 ≤ y) (k : ∀ g : Int, g = (Int.gcd x y : Int) → 1 ≤ g → g ≤ y → post (some (1, 0, 1, 9223372036854775807, g)) M) : xa_C I A h0 (d + 2) 229 [(1, 0, l1, u1, x), (1, 0, l2, u2, y)] M post := by
  refine xa_C_arg [(1, 0, -9223372036854775807, 9223372036854775807, x), (1, 0, -9223372036854775807, 9223372036854775807, y)] (xa_svL (fun _ _ _ _ => by omega) (xa_svL (fun _ _ _ _ => by omega) xa_sv0)) ?_
  exact ct_gcd1 (by decide) (by decide) hy1 k
end
section
-- methods that write what lasts (made by wip/p24/xa/xm6.py)
set_option maxRecDepth 20000
theorem xm_bld_c {M M1 : xa_M} (h : ∀ j, M1 104 j = M 104 j) {i : Int} (hb : xm_bld M i) : xm_bld M1 i := by
  unfold xm_bld at hb ⊢
  simp only [h]
  exact hb
theorem xm_Inv_b {M M1 : xa_M} (h104 : ∀ j, M1 104 j = M 104 j) (h105 : ∀ j, M1 105 j = M 105 j) (hI : xm_Inv M) (c1 : ∀ w, 0 ≤ w → w < M1 60 0 → 10 ≤ M1 61 w ∧ M1 61 w ≤ M1 62 w ∧ 10 ≤ M1 63 w) (c2 : ∀ m, 0 ≤ m → m < M1 60 6 → M1 66 m < M1 60 0 ∧ M1 67 m < M1 60 0) (c3 : ∀ p, 0 ≤ p → p < M1 60 11 → 1 ≤ M1 70 p ∧ 1 ≤ M1 71 p) (c4 : M1 60 15 ≤ M1 60 16) : xm_Inv M1 :=
  ⟨c1, c2, c3, c4, fun i i0 i1 i2 => xm_bld_c h104 (hI.2.2.2.2 i i0 i1 (by rw [← h105]; exact i2))⟩
theorem ct_max {A : Nat → Nat} {h0 : g_H} {d : Nat} {M : xa_M} {post : Option xa_V → xa_M → Prop} {I : xa_I} {l1 u1 l2 u2 a b : Int} (lo hi : Int) (h1 : lo ≤ l1 ∨ lo ≤ l2) (h2 : u1 ≤ hi) (h3 : u2 ≤ hi) (k : ∀ r : Int, (lo ≤ r ∧ r ≤ hi) → (a ≤ r ∧ b ≤ r ∧ (r = a ∨ r = b)) → post (some (0, 0, lo, hi, r)) M) : xa_C I A h0 (d + 1) 35 [(0, 0, l1, u1, a), (0, 0, l2, u2, b)] M post := by
  refine xa_C_asm (fun hM hv => ?_)
  have va : l1 ≤ a ∧ a ≤ u1 := xa_v1 hv (show (0 : Nat) < 2 by decide)
  have vb : l2 ≤ b ∧ b ≤ u2 := xa_v2 hv (show (0 : Nat) < 2 by decide)
  refine xa_C_arg [(0, 0, (-2147483648), 2147483647, a), (0, 0, (-2147483648), 2147483647, b)] (xa_svI (fun _ _ _ _ => by omega) (xa_svI (fun _ _ _ _ => by omega) xa_sv0)) (xa_C_wk ?_)
  refine xa_meth (Q0 := (2, 1, false, 0, 0, 14)) (by decide +kernel) ⟨rfl, rfl⟩ (full := s_c_35) rfl rfl ?_
  intro hM hv Q hgo
  refine hgo.1 10 [] 0 _ _ _ ?_
  refine And.intro ?_ ?_
  · intro (c1 : a < b)
    show xa_wk post (some (0, 0, (-2147483648), 2147483647, b)) M
    exact xa_wkI b rfl (fun _ _ => by omega) (k _ (by omega) (by omega))
  · intro (c1 : b ≤ a)
    show xa_wk post (some (0, 0, (-2147483648), 2147483647, a)) M
    exact xa_wkI a rfl (fun _ _ => by omega) (k _ (by omega) (by omega))
theorem ct_min {A : Nat → Nat} {h0 : g_H} {d : Nat} {M : xa_M} {post : Option xa_V → xa_M → Prop} {I : xa_I} {l1 u1 l2 u2 a b : Int} (lo hi : Int) (h1 : lo ≤ l1) (h2 : lo ≤ l2) (h3 : u1 ≤ hi ∨ u2 ≤ hi) (k : ∀ r : Int, (lo ≤ r ∧ r ≤ hi) → (r ≤ a ∧ r ≤ b ∧ (r = a ∨ r = b)) → post (some (0, 0, lo, hi, r)) M) : xa_C I A h0 (d + 1) 32 [(0, 0, l1, u1, a), (0, 0, l2, u2, b)] M post := by
  refine xa_C_asm (fun hM hv => ?_)
  have va : l1 ≤ a ∧ a ≤ u1 := xa_v1 hv (show (0 : Nat) < 2 by decide)
  have vb : l2 ≤ b ∧ b ≤ u2 := xa_v2 hv (show (0 : Nat) < 2 by decide)
  refine xa_C_arg [(0, 0, (-2147483648), 2147483647, a), (0, 0, (-2147483648), 2147483647, b)] (xa_svI (fun _ _ _ _ => by omega) (xa_svI (fun _ _ _ _ => by omega) xa_sv0)) (xa_C_wk ?_)
  refine xa_meth (Q0 := (2, 1, false, 0, 0, 14)) (by decide +kernel) ⟨rfl, rfl⟩ (full := s_c_32) rfl rfl ?_
  intro hM hv Q hgo
  refine hgo.1 10 [] 0 _ _ _ ?_
  refine And.intro ?_ ?_
  · intro (c1 : b < a)
    show xa_wk post (some (0, 0, (-2147483648), 2147483647, b)) M
    exact xa_wkI b rfl (fun _ _ => by omega) (k _ (by omega) (by omega))
  · intro (c1 : a ≤ b)
    show xa_wk post (some (0, 0, (-2147483648), 2147483647, a)) M
    exact xa_wkI a rfl (fun _ _ => by omega) (k _ (by omega) (by omega))
theorem ct_lost {A : Nat → Nat} {h0 : g_H} {d : Nat} {M : xa_M} {post : Option xa_V → xa_M → Prop} (k : post (some (0, 0, 0, 0, 0)) (xa_up M 60 21 1)) : xa_C xm_I A h0 (d + 1) 224 [(2, 60, 0, 0, 0)] M post := by
  refine xa_meth (Q0 := (1, 1, false, 0, 0, 12)) (by decide +kernel) ⟨rfl, rfl⟩ (full := s_c_224) rfl rfl ?_
  intro hM hv Q hgo
  refine hgo.1 9 [] 0 _ _ _ ?_
  show post (some (0, 0, 0, 0, 0)) (xa_up M 60 21 1)
  exact k
end
section
-- kept builds (made by wip/p24/xa/xm7.py)
set_option maxRecDepth 20000
theorem xa_up_hit {M : xa_M} {q q' : Nat} {j j' v : Int} (h : q' = q ∧ j' = j) : xa_up M q j v q' j' = v := if_pos h
theorem xm_bld_2 {M M1 : xa_M} {i : Int} (h : ∀ j, 124 * i ≤ j → j < 124 * i + 124 → M1 104 j = M 104 j) (hb : xm_bld M i) : xm_bld M1 i := by
  obtain ⟨h1, h2, h3, h4, h5⟩ := hb
  refine ⟨?_, fun w w0 w1 => ?_, ?_, fun m m0 m1 => ?_, fun a a0 a1 => ?_⟩
  · rw [h _ (by omega) (by omega)]
    exact h1
  · rw [h (124 * i) (by omega) (by omega), h (124 * i + 1 + 5 * w) (by omega) (by omega), h (124 * i + 2 + 5 * w) (by omega) (by omega), h (124 * i + 3 + 5 * w) (by omega) (by omega), h (124 * i + 4 + 5 * w) (by omega) (by omega), h (124 * i + 5 + 5 * w) (by omega) (by omega)]
    exact h2 w w0 w1
  · rw [h _ (by omega) (by omega)]
    exact h3
  · rw [h (124 * i) (by omega) (by omega), h (124 * i + 71) (by omega) (by omega), h (124 * i + 72 + 2 * m) (by omega) (by omega), h (124 * i + 73 + 2 * m) (by omega) (by omega)]
    exact h4 m m0 m1
  · rw [h (124 * i + 104 + 2 * a) (by omega) (by omega), h (124 * i + 105 + 2 * a) (by omega) (by omega)]
    exact h5 a a0 a1
/-- what keep has written -/
def xm_kpt (M M1 : xa_M) (a : Int) (w m x : Int) : Prop := (∀ q j, ¬ xm_scr q j → ¬ q = 104 → ¬ q = 105 → M1 q j = M q j) ∧ (∀ j, ¬ j = a → M1 105 j = M 105 j) ∧ (∀ j, ¬ (124 * a ≤ j ∧ j < 124 * a + 124) → M1 104 j = M 104 j) ∧ M1 104 (124 * a) = M 60 0 ∧ (∀ y, 0 ≤ y → y < w → M1 104 (124 * a + 1 + 5 * y) = M 61 y ∧ M1 104 (124 * a + 2 + 5 * y) = M 62 y ∧ M1 104 (124 * a + 3 + 5 * y) = M 63 y ∧ M1 104 (124 * a + 4 + 5 * y) = M 64 y ∧ M1 104 (124 * a + 5 + 5 * y) = M 65 y) ∧ (0 ≤ m → M1 104 (124 * a + 71) = M 60 6) ∧ (∀ y, 0 ≤ y → y < m → M1 104 (124 * a + 72 + 2 * y) = M 66 y ∧ M1 104 (124 * a + 73 + 2 * y) = M 67 y) ∧ (∀ y, 0 ≤ y → y < x → M1 104 (124 * a + 104 + 2 * y) = M 68 y ∧ M1 104 (124 * a + 105 + 2 * y) = M 69 y)
theorem xm_kpt_Inv {M M1 : xa_M} {a : Int} (hM : xa_Mok xm_I M) (hI : xm_Inv M) (h : xm_kpt M M1 a 14 16 10) : xm_Inv M1 := by
  obtain ⟨h1, h2, h3, h4, h5, h6, h7, h8⟩ := h
  have e := fun q j (hn : ¬ xm_scr q j) (hq : ¬ q = 104 ∧ ¬ q = 105) => h1 q j hn hq.1 hq.2
  refine ⟨fun w w0 w1 => ?_, fun m m0 m1 => ?_, fun p p0 p1 => ?_, ?_, fun i i0 i1 i2 => ?_⟩
  · rw [e 60 0 (by omega) (by omega)] at w1
    rw [e 61 w (by omega) (by omega), e 62 w (by omega) (by omega), e 63 w (by omega) (by omega)]
    exact hI.1 w w0 w1
  · rw [e 60 6 (by omega) (by omega)] at m1
    rw [e 66 m (by omega) (by omega), e 67 m (by omega) (by omega), e 60 0 (by omega) (by omega)]
    exact hI.2.1 m m0 m1
  · rw [e 60 11 (by omega) (by omega)] at p1
    rw [e 70 p (by omega) (by omega), e 71 p (by omega) (by omega)]
    exact hI.2.2.1 p p0 p1
  · rw [e 60 15 (by omega) (by omega), e 60 16 (by omega) (by omega)]
    exact hI.2.2.2.1
  · by_cases ei : i = a
    · subst ei
      have b0 := xm_f0 hM
      have b6 := xm_f6 hM
      refine ⟨by omega, fun w w0 w1 => ?_, by have := h6 (by omega); omega, fun m m0 m1 => ?_, fun x x0 x1 => ?_⟩
      · have f := h5 w w0 w1
        have g := hI.1 w w0
        have t1 := xm_t61 hM w w0 (by omega)
        have t2 := xm_t62 hM w w0 (by omega)
        have t3 := xm_t63 hM w w0 (by omega)
        have t4 := xm_t64 hM w w0 (by omega)
        have t5 := xm_t65 hM w w0 (by omega)
        omega
      · have f := h7 m m0 m1
        have g := hI.2.1 m m0
        have t1 := xm_t66 hM m m0 (by omega)
        have t2 := xm_t67 hM m m0 (by omega)
        have h6' := h6 (by omega)
        omega
      · have f := h8 x x0 x1
        have t1 := xm_t68 hM x x0 (by omega)
        have t2 := xm_t69 hM x x0 (by omega)
        omega
    · rw [h2 i ei] at i2
      exact xm_bld_2 (fun j j0 j1 => h3 j (by omega)) (hI.2.2.2.2 i i0 i1 i2)
def xa_bc (n : Int) : Int := xa_ib 3 (xa_w32 ((xa_w32 ((xa_ib 3 (xa_w32 ((xa_w32 ((xa_ib 3 (xa_w32 (n - (xa_ib 3 (xa_ib 8 n 1) 1431655765))) 858993459) + (xa_ib 3 (xa_ib 8 (xa_w32 (n - (xa_ib 3 (xa_ib 8 n 1) 1431655765))) 2) 858993459))) + (xa_ib 8 (xa_w32 ((xa_ib 3 (xa_w32 (n - (xa_ib 3 (xa_ib 8 n 1) 1431655765))) 858993459) + (xa_ib 3 (xa_ib 8 (xa_w32 (n - (xa_ib 3 (xa_ib 8 n 1) 1431655765))) 2) 858993459))) 4))) 252645135) + (xa_ib 8 (xa_ib 3 (xa_w32 ((xa_w32 ((xa_ib 3 (xa_w32 (n - (xa_ib 3 (xa_ib 8 n 1) 1431655765))) 858993459) + (xa_ib 3 (xa_ib 8 (xa_w32 (n - (xa_ib 3 (xa_ib 8 n 1) 1431655765))) 2) 858993459))) + (xa_ib 8 (xa_w32 ((xa_ib 3 (xa_w32 (n - (xa_ib 3 (xa_ib 8 n 1) 1431655765))) 858993459) + (xa_ib 3 (xa_ib 8 (xa_w32 (n - (xa_ib 3 (xa_ib 8 n 1) 1431655765))) 2) 858993459))) 4))) 252645135) 8))) + (xa_ib 8 (xa_w32 ((xa_ib 3 (xa_w32 ((xa_w32 ((xa_ib 3 (xa_w32 (n - (xa_ib 3 (xa_ib 8 n 1) 1431655765))) 858993459) + (xa_ib 3 (xa_ib 8 (xa_w32 (n - (xa_ib 3 (xa_ib 8 n 1) 1431655765))) 2) 858993459))) + (xa_ib 8 (xa_w32 ((xa_ib 3 (xa_w32 (n - (xa_ib 3 (xa_ib 8 n 1) 1431655765))) 858993459) + (xa_ib 3 (xa_ib 8 (xa_w32 (n - (xa_ib 3 (xa_ib 8 n 1) 1431655765))) 2) 858993459))) 4))) 252645135) + (xa_ib 8 (xa_ib 3 (xa_w32 ((xa_w32 ((xa_ib 3 (xa_w32 (n - (xa_ib 3 (xa_ib 8 n 1) 1431655765))) 858993459) + (xa_ib 3 (xa_ib 8 (xa_w32 (n - (xa_ib 3 (xa_ib 8 n 1) 1431655765))) 2) 858993459))) + (xa_ib 8 (xa_w32 ((xa_ib 3 (xa_w32 (n - (xa_ib 3 (xa_ib 8 n 1) 1431655765))) 858993459) + (xa_ib 3 (xa_ib 8 (xa_w32 (n - (xa_ib 3 (xa_ib 8 n 1) 1431655765))) 2) 858993459))) 4))) 252645135) 8))) 16))) 63
theorem ct_bitCount {A : Nat → Nat} {h0 : g_H} {d : Nat} {M : xa_M} {post : Option xa_V → xa_M → Prop} {I : xa_I} {l u n : Int} (k : post (some (0, 0, -2147483648, 2147483647, xa_bc n)) M) : xa_C I A h0 (d + 1) 136 [(0, 0, l, u, n)] M post := by
  refine xa_C_arg [(0, 0, (-2147483648), 2147483647, n)] (xa_svI (fun _ _ _ _ => by omega) xa_sv0) (xa_C_wk ?_)
  refine xa_meth (Q0 := (1, 1, false, 0, 0, 15)) (by decide +kernel) ⟨rfl, rfl⟩ (full := s_c_136) rfl rfl ?_
  intro hM hv Q hgo
  refine hgo.1 46 [] 0 _ _ _ ?_
  show xa_wk post (some (0, 0, (-2147483648), 2147483647, xa_ib 3 (xa_w32 ((xa_w32 ((xa_ib 3 (xa_w32 ((xa_w32 ((xa_ib 3 (xa_w32 (n - (xa_ib 3 (xa_ib 8 n 1) 1431655765))) 858993459) + (xa_ib 3 (xa_ib 8 (xa_w32 (n - (xa_ib 3 (xa_ib 8 n 1) 1431655765))) 2) 858993459))) + (xa_ib 8 (xa_w32 ((xa_ib 3 (xa_w32 (n - (xa_ib 3 (xa_ib 8 n 1) 1431655765))) 858993459) + (xa_ib 3 (xa_ib 8 (xa_w32 (n - (xa_ib 3 (xa_ib 8 n 1) 1431655765))) 2) 858993459))) 4))) 252645135) + (xa_ib 8 (xa_ib 3 (xa_w32 ((xa_w32 ((xa_ib 3 (xa_w32 (n - (xa_ib 3 (xa_ib 8 n 1) 1431655765))) 858993459) + (xa_ib 3 (xa_ib 8 (xa_w32 (n - (xa_ib 3 (xa_ib 8 n 1) 1431655765))) 2) 858993459))) + (xa_ib 8 (xa_w32 ((xa_ib 3 (xa_w32 (n - (xa_ib 3 (xa_ib 8 n 1) 1431655765))) 858993459) + (xa_ib 3 (xa_ib 8 (xa_w32 (n - (xa_ib 3 (xa_ib 8 n 1) 1431655765))) 2) 858993459))) 4))) 252645135) 8))) + (xa_ib 8 (xa_w32 ((xa_ib 3 (xa_w32 ((xa_w32 ((xa_ib 3 (xa_w32 (n - (xa_ib 3 (xa_ib 8 n 1) 1431655765))) 858993459) + (xa_ib 3 (xa_ib 8 (xa_w32 (n - (xa_ib 3 (xa_ib 8 n 1) 1431655765))) 2) 858993459))) + (xa_ib 8 (xa_w32 ((xa_ib 3 (xa_w32 (n - (xa_ib 3 (xa_ib 8 n 1) 1431655765))) 858993459) + (xa_ib 3 (xa_ib 8 (xa_w32 (n - (xa_ib 3 (xa_ib 8 n 1) 1431655765))) 2) 858993459))) 4))) 252645135) + (xa_ib 8 (xa_ib 3 (xa_w32 ((xa_w32 ((xa_ib 3 (xa_w32 (n - (xa_ib 3 (xa_ib 8 n 1) 1431655765))) 858993459) + (xa_ib 3 (xa_ib 8 (xa_w32 (n - (xa_ib 3 (xa_ib 8 n 1) 1431655765))) 2) 858993459))) + (xa_ib 8 (xa_w32 ((xa_ib 3 (xa_w32 (n - (xa_ib 3 (xa_ib 8 n 1) 1431655765))) 858993459) + (xa_ib 3 (xa_ib 8 (xa_w32 (n - (xa_ib 3 (xa_ib 8 n 1) 1431655765))) 2) 858993459))) 4))) 252645135) 8))) 16))) 63)) M
  exact xa_wkI (xa_bc n) rfl (fun _ _ => by omega) k
theorem ct_putCell {A : Nat → Nat} {h0 : g_H} {d : Nat} {M : xa_M} {post : Option xa_V → xa_M → Prop} {l u v n : Int} (hn : M 60 68 = n) (h1 : 0 ≤ n) (h2 : n < 496) (k : post none (xa_up (xa_up M 104 n v) 60 68 (n + 1))) : xa_C xm_I A h0 (d + 1) 294 [(2, 60, 0, 0, 0), (0, 0, l, u, v)] M post := by
  subst hn
  refine xa_C_arg [(2, 60, 0, 0, 0), (0, 0, (-2147483648), 2147483647, v)] (xa_svR (xa_svI (fun _ _ _ _ => by omega) xa_sv0)) ?_
  refine xa_meth (Q0 := (2, 0, false, 0, 0, 12)) (by decide +kernel) ⟨rfl, rfl⟩ (full := s_c_294) rfl rfl ?_
  intro hM hv Q hgo
  refine hgo.1 17 [] 0 _ _ _ ?_
  refine And.intro (show 0 ≤ (M 60 68) ∧ (M 60 68) < 496 by omega) ?_
  refine And.intro (show 0 ≤ ((M 60 68) + 1) ∧ ((M 60 68) + 1) ≤ 496 by omega) ?_
  show post none (xa_up (xa_up M 104 (M 60 68) v) 60 68 ((M 60 68) + 1))
  exact k
theorem ct_nextCell {A : Nat → Nat} {h0 : g_H} {d : Nat} {M : xa_M} {post : Option xa_V → xa_M → Prop} {n : Int} (hn : M 60 68 = n) (h1 : 0 ≤ n) (h2 : n < 496) (k : post (some (0, 0, -2147483648, 2147483647, M 104 n)) (xa_up M 60 68 (n + 1))) : xa_C xm_I A h0 (d + 1) 296 [(2, 60, 0, 0, 0)] M post := by
  subst hn
  refine xa_meth (Q0 := (1, 1, false, 0, 0, 12)) (by decide +kernel) ⟨rfl, rfl⟩ (full := s_c_296) rfl rfl ?_
  intro hM hv Q hgo
  refine hgo.1 18 [] 0 _ _ _ ?_
  refine And.intro (show 0 ≤ ((M 60 68) + 1) ∧ ((M 60 68) + 1) ≤ 496 by omega) ?_
  refine And.intro (show 0 ≤ (((M 60 68) + 1) - 1) ∧ (((M 60 68) + 1) - 1) < 496 by omega) ?_
  show post (some (0, 0, (-2147483648), 2147483647, M 104 (((M 60 68) + 1) - 1))) (xa_up M 60 68 ((M 60 68) + 1))
  have e : M 60 68 + 1 - 1 = M 60 68 := by omega
  rw [e]
  exact k
end
section
-- a kept build again; two of them (made by wip/p24/xa/xm8.py)
set_option maxRecDepth 20000
/-- what again has read -/
def xm_agn (M M1 : xa_M) (a : Int) (w m : Int) : Prop := (∀ q j, ¬ xm_scr q j → ¬ (q = 60 ∧ (j = 0 ∨ j = 6)) → ¬ (61 ≤ q ∧ q ≤ 69) → M1 q j = M q j) ∧ M1 60 0 = M 104 (124 * a) ∧ (∀ y, 0 ≤ y → y < w → M1 61 y = M 104 (124 * a + 1 + 5 * y) ∧ M1 62 y = M 104 (124 * a + 2 + 5 * y) ∧ M1 63 y = M 104 (124 * a + 3 + 5 * y)) ∧ (0 ≤ m → M1 60 6 = M 104 (124 * a + 71)) ∧ (∀ y, 0 ≤ y → y < m → M1 66 y = M 104 (124 * a + 72 + 2 * y) ∧ M1 67 y = M 104 (124 * a + 73 + 2 * y))
theorem xm_agn_Inv {M M1 : xa_M} {a : Int} (hI : xm_Inv M) (hb : xm_bld M a) (h : xm_agn M M1 a 14 16) : xm_Inv M1 := by
  obtain ⟨h1, h2, h3, h4, h5⟩ := h
  have h6 := h4 (by omega)
  have b1 := hb.1
  have b3 := hb.2.2.1
  refine ⟨fun w w0 w1 => ?_, fun m m0 m1 => ?_, fun p p0 p1 => ?_, ?_, fun i i0 i1 i2 => ?_⟩
  · have f := h3 w w0 (by omega)
    have g := hb.2.1 w w0 (by omega)
    omega
  · have f := h5 m m0 (by omega)
    have g := hb.2.2.2.1 m m0 (by omega)
    omega
  · rw [h1 60 11 (by omega) (by omega) (by omega)] at p1
    rw [h1 70 p (by omega) (by omega) (by omega), h1 71 p (by omega) (by omega) (by omega)]
    exact hI.2.2.1 p p0 p1
  · rw [h1 60 15 (by omega) (by omega) (by omega), h1 60 16 (by omega) (by omega) (by omega)]
    exact hI.2.2.2.1
  · rw [h1 105 i (by omega) (by omega) (by omega)] at i2
    exact xm_bld_2 (fun j _ _ => h1 104 j (by omega) (by omega) (by omega)) (hI.2.2.2.2 i i0 i1 i2)
end
section
-- two kept builds (made by wip/p24/xa/xm9.py)
set_option maxRecDepth 20000
theorem ct_isLeft {A : Nat → Nat} {h0 : g_H} {d : Nat} {M : xa_M} {post : Option xa_V → xa_M → Prop} {l1 u1 l2 u2 l3 u3 l4 u4 : Int} {l a b c : Int} (hl0 : 0 ≤ l) (hl1 : l ≤ 11) (k : ∀ r : Int, (r = 0 ∨ r = 1) → (r = 1 ↔ (M 100 l = a ∧ M 101 l = b ∧ M 102 l ≤ c ∧ c ≤ M 103 l)) → post (some (0, 0, 0, 1, r)) M) : xa_C xm_I A h0 (d + 2) 292 [(2, 60, 0, 0, 0), (0, 0, l1, u1, l), (0, 0, l2, u2, a), (0, 0, l3, u3, b), (0, 0, l4, u4, c)] M post := by
  refine xa_C_arg [(2, 60, 0, 0, 0), (0, 0, 0, 11, l), (0, 0, (-2147483648), 2147483647, a), (0, 0, (-2147483648), 2147483647, b), (0, 0, (-2147483648), 2147483647, c)] (xa_svR (xa_svI (fun _ _ _ _ => by omega) (xa_svI (fun _ _ _ _ => by omega) (xa_svI (fun _ _ _ _ => by omega) (xa_svI (fun _ _ _ _ => by omega) xa_sv0))))) (xa_C_wk ?_)
  refine xa_meth (Q0 := (5, 2, false, 0, 0, 12)) (by decide +kernel) ⟨rfl, rfl⟩ (full := s_c_292) rfl rfl ?_
  intro hM hv Q hgo
  refine hgo.1 30 [] 0 _ _ _ ?_
  refine And.intro ?_ ?_
  · intro (c1 : ¬ (M 100 l) = a)
    show xa_wk post (some (0, 0, 0, 0, 0)) M
    exact xa_wkI 0 rfl (fun _ _ => by omega) (k 0 (by omega) (by omega))
  · intro (c1 : (M 100 l) = a)
    refine And.intro ?_ ?_
    · intro (c2 : ¬ (M 101 l) = b)
      show xa_wk post (some (0, 0, 0, 0, 0)) M
      exact xa_wkI 0 rfl (fun _ _ => by omega) (k 0 (by omega) (by omega))
    · intro (c2 : (M 101 l) = b)
      show xa_C xm_I A h0 _ 214 [(0, 0, (-2147483648), 2147483647, c), (0, 0, (-2147483648), 2147483647, M 102 l), (0, 0, (-2147483648), 2147483647, M 103 l)] M _
      refine ct_in ?_ ?_
      · intro (i3 : (M 102 l) ≤ c ∧ c ≤ (M 103 l))
        show xa_wk post (some (0, 0, 1, 1, 1)) M
        exact xa_wkI 1 rfl (fun _ _ => by omega) (k 1 (by omega) (by omega))
      · intro (i3 : ¬ ((M 102 l) ≤ c ∧ c ≤ (M 103 l)))
        show xa_wk post (some (0, 0, 0, 0, 0)) M
        exact xa_wkI 0 rfl (fun _ _ => by omega) (k 0 (by omega) (by omega))
theorem ct_ofBuild {A : Nat → Nat} {h0 : g_H} {d : Nat} {M : xa_M} {post : Option xa_V → xa_M → Prop} {l1 u1 l2 u2 l3 u3 : Int} {a b c : Int} (ha0 : 0 ≤ a) (ha1 : a ≤ 3) (hb0 : 0 ≤ b) (hb1 : b ≤ 13) (hc0 : 2 ≤ c) (hc1 : c ≤ 4) (k : post (some (0, 0, -2147483648, 2147483647, M 104 (124 * a + 1 + 5 * b + c))) M) : xa_C xm_I A h0 (d + 1) 298 [(2, 60, 0, 0, 0), (0, 0, l1, u1, a), (0, 0, l2, u2, b), (0, 0, l3, u3, c)] M post := by
  refine xa_C_arg [(2, 60, 0, 0, 0), (0, 0, 0, 3, a), (0, 0, 0, 13, b), (0, 0, 2, 4, c)] (xa_svR (xa_svI (fun _ _ _ _ => by omega) (xa_svI (fun _ _ _ _ => by omega) (xa_svI (fun _ _ _ _ => by omega) xa_sv0)))) ?_
  refine xa_meth (Q0 := (4, 1, false, 0, 0, 12)) (by decide +kernel) ⟨rfl, rfl⟩ (full := s_c_298) rfl rfl ?_
  intro hM hv Q hgo
  refine hgo.1 19 [] 0 _ _ _ ?_
  show post (some (0, 0, (-2147483648), 2147483647, M 104 ((((124 * a) + 1) + (5 * b)) + c))) M
  exact k
end
section
-- the book (made by wip/p24/xa/xm10.py)
set_option maxRecDepth 20000
/-- only at and wrong may be others -/
def xm_f2 (M M1 : xa_M) : Prop := ∀ q j, ¬ (q = 60 ∧ (j = 41 ∨ j = 42)) → M1 q j = M q j
def xm_c18 (M M1 : xa_M) : Prop := ∀ q j, ¬ xm_scr q j → ¬ (q = 60 ∧ j = 18) → M1 q j = M q j
theorem xm_c18_u {M M1 : xa_M} {q : Nat} {j v : Int} (hs : ((74 ≤ q ∧ q ≤ 95) ∨ (q = 60 ∧ ((20 ≤ j ∧ j ≤ 53) ∨ j = 68))) ∨ (q = 60 ∧ j = 18)) (h : xm_c18 M M1) : xm_c18 M (xa_up M1 q j v) := fun q' j' hn hn2 => by
  rw [xa_up_ne (fun e => by
    rcases hs with hs | hs
    · exact hn (by rw [e.1, e.2]; exact hs)
    · exact hn2 (by rw [e.1, e.2]; exact hs))]
  exact h q' j' hn hn2
theorem xm_c18_f {M M1 M2 : xa_M} (h : xm_c18 M M1) (h2 : xm_f2 M1 M2) : xm_c18 M M2 := fun q j hn hn2 => (h2 q j (fun e => hn (by omega))).trans (h q j hn hn2)
theorem xm_c18_I {M M1 : xa_M} (hI : xm_Inv M) (h : xm_c18 M M1) : xm_Inv M1 := by
  refine xm_Inv_b (M := M) (fun j => h 104 j (by omega) (by omega)) (fun j => h 105 j (by omega) (by omega)) hI (fun w w0 w1 => ?_) (fun m m0 m1 => ?_) (fun p p0 p1 => ?_) ?_
  · rw [h 60 0 (by omega) (by omega)] at w1
    rw [h 61 w (by omega) (by omega), h 62 w (by omega) (by omega), h 63 w (by omega) (by omega)]
    exact hI.1 w w0 w1
  · rw [h 60 6 (by omega) (by omega)] at m1
    rw [h 66 m (by omega) (by omega), h 67 m (by omega) (by omega), h 60 0 (by omega) (by omega)]
    exact hI.2.1 m m0 m1
  · rw [h 60 11 (by omega) (by omega)] at p1
    rw [h 70 p (by omega) (by omega), h 71 p (by omega) (by omega)]
    exact hI.2.2.1 p p0 p1
  · rw [h 60 15 (by omega) (by omega), h 60 16 (by omega) (by omega)]
    exact hI.2.2.2.1
/-- the book is copied -/
def xm_bkc (M M1 : xa_M) (n p : Int) : Prop := (∀ q j, ¬ xm_scr q j → ¬ (q = 60 ∧ (j = 18 ∨ j = 11)) → ¬ (70 ≤ q ∧ q ≤ 72) → M1 q j = M q j) ∧ M1 60 11 = n ∧ (∀ x, 0 ≤ x → x < n → 1 ≤ M1 88 x ∧ 1 ≤ M1 89 x) ∧ (∀ x, 0 ≤ x → x < p → 1 ≤ M1 70 x ∧ 1 ≤ M1 71 x)
theorem xm_bkc_I {M M1 : xa_M} {n : Int} (hI : xm_Inv M) (h : xm_bkc M M1 n n) : xm_Inv M1 := by
  obtain ⟨h1, h2, h3, h4⟩ := h
  refine xm_Inv_b (M := M) (fun j => h1 104 j (by omega) (by omega) (by omega)) (fun j => h1 105 j (by omega) (by omega) (by omega)) hI (fun w w0 w1 => ?_) (fun m m0 m1 => ?_) (fun p p0 p1 => ?_) ?_
  · rw [h1 60 0 (by omega) (by omega) (by omega)] at w1
    rw [h1 61 w (by omega) (by omega) (by omega), h1 62 w (by omega) (by omega) (by omega), h1 63 w (by omega) (by omega) (by omega)]
    exact hI.1 w w0 w1
  · rw [h1 60 6 (by omega) (by omega) (by omega)] at m1
    rw [h1 66 m (by omega) (by omega) (by omega), h1 67 m (by omega) (by omega) (by omega), h1 60 0 (by omega) (by omega) (by omega)]
    exact hI.2.1 m m0 m1
  · exact h4 p p0 (by omega)
  · rw [h1 60 15 (by omega) (by omega) (by omega), h1 60 16 (by omega) (by omega) (by omega)]
    exact hI.2.2.2.1
theorem ct_here {A : Nat → Nat} {h0 : g_H} {d : Nat} {M : xa_M} {post : Option xa_V → xa_M → Prop} (k : ∀ r : Int, ((M 60 41 < M 60 40 ∧ M 60 41 < 60 ∧ r = M 73 (M 60 41)) ∨ (¬ (M 60 41 < M 60 40 ∧ M 60 41 < 60) ∧ r = -1)) → post (some (0, 0, -128, 127, r)) M) : xa_C xm_I A h0 (d + 1) 254 [(2, 60, 0, 0, 0)] M post := by
  refine xa_C_wk ?_
  refine xa_meth (Q0 := (1, 1, false, 0, 0, 12)) (by decide +kernel) ⟨rfl, rfl⟩ (full := s_c_254) rfl rfl ?_
  intro hM hv Q hgo
  have b41 := xm_f41 hM
  refine hgo.1 20 [] 0 _ _ _ ?_
  refine And.intro ?_ ?_
  · intro (c1 : (M 60 40) ≤ (M 60 41))
    show xa_wk post (some (0, 0, (-1), (-1), (-1))) M
    exact xa_wkI (-1) rfl (fun _ _ => by omega) (k _ (by omega))
  · intro (c1 : (M 60 41) < (M 60 40))
    refine And.intro ?_ ?_
    · intro (c2 : 60 ≤ (M 60 41))
      show xa_wk post (some (0, 0, (-1), (-1), (-1))) M
      exact xa_wkI (-1) rfl (fun _ _ => by omega) (k _ (by omega))
    · intro (c2 : (M 60 41) < 60)
      refine And.intro (show 0 ≤ (M 60 41) ∧ (M 60 41) < 80 by omega) ?_
      show xa_wk post (some (0, 0, (-128), 127, M 73 (M 60 41))) M
      exact xa_wkI (M 73 (M 60 41)) rfl (fun _ _ => by omega) (k _ (by omega))
theorem ct_fault {A : Nat → Nat} {h0 : g_H} {d : Nat} {M : xa_M} {post : Option xa_V → xa_M → Prop} {l1 u1 : Int} {a : Int} (ha : True) (k1 : M 60 42 = -1 → post none (xa_up M 60 42 a)) (k2 : ¬ M 60 42 = -1 → post none M) : xa_C xm_I A h0 (d + 1) 255 [(2, 60, 0, 0, 0), (0, 0, l1, u1, a)] M post := by
  refine xa_C_arg [(2, 60, 0, 0, 0), (0, 0, (-2147483648), 2147483647, a)] (xa_svR (xa_svI (fun _ _ _ _ => by omega) xa_sv0)) ?_
  refine xa_meth (Q0 := (2, 0, false, 0, 0, 12)) (by decide +kernel) ⟨rfl, rfl⟩ (full := s_c_255) rfl rfl ?_
  intro hM hv Q hgo
  refine hgo.1 12 [] 0 _ _ _ ?_
  refine And.intro ?_ ?_
  · intro (c1 : ¬ (M 60 42) = (-1))
    show post none M
    first | exact k1 c1 | exact k2 c1
  · intro (c1 : (M 60 42) = (-1))
    show post none (xa_up M 60 42 a)
    first | exact k1 c1 | exact k2 c1
end
section
-- loops over teeth, plates, signs and months (made by wip/p24/xa/xm11.py)
set_option maxRecDepth 20000
theorem xm_sq (x : Int) : 0 ≤ x * x := by
  rcases Int.le_total 0 x with h | h
  · exact Int.mul_nonneg h h
  · have := Int.mul_nonneg (show 0 ≤ -x by omega) (show 0 ≤ -x by omega)
    rw [Int.neg_mul_neg] at this
    exact this
theorem ct_has {A : Nat → Nat} {h0 : g_H} {d : Nat} {M : xa_M} {post : Option xa_V → xa_M → Prop} {I : xa_I} {l0 u0 l1 u1 a b : Int} (k : ∀ r : Int, (r = 0 ∨ r = 1) → (r = 1 ↔ xa_ib 3 (xa_ib 7 a b) 1 = 1) → post (some (0, 0, 0, 1, r)) M) : xa_C I A h0 (d + 1) 248 [(0, 0, l0, u0, a), (0, 0, l1, u1, b)] M post := by
  refine xa_C_arg [(0, 0, (-2147483648), 2147483647, a), (0, 0, (-2147483648), 2147483647, b)] (xa_svI (fun _ _ _ _ => by omega) (xa_svI (fun _ _ _ _ => by omega) xa_sv0)) (xa_C_wk ?_)
  refine xa_meth (Q0 := (2, 2, false, 0, 0, 12)) (by decide +kernel) ⟨rfl, rfl⟩ (full := s_c_248) rfl rfl ?_
  intro hM hv Q hgo
  refine hgo.1 14 [] 0 _ _ _ ?_
  refine And.intro ?_ ?_
  · intro (c1 : ¬ (xa_ib 3 (xa_ib 7 a b) 1) = 1)
    show xa_wk post (some (0, 0, 0, 0, 0)) M
    exact xa_wkI 0 rfl (fun _ _ => by omega) (k 0 (by omega) (by omega))
  · intro (c1 : (xa_ib 3 (xa_ib 7 a b) 1) = 1)
    show xa_wk post (some (0, 0, 1, 1, 1)) M
    exact xa_wkI 1 rfl (fun _ _ => by omega) (k 1 (by omega) (by omega))
theorem ct_apart {A : Nat → Nat} {h0 : g_H} {d : Nat} {M : xa_M} {post : Option xa_V → xa_M → Prop} {l1 u1 l2 u2 : Int} {a b : Int} (ha0 : 0 ≤ a) (ha1 : a ≤ 9) (hb0 : 0 ≤ b) (hb1 : b ≤ 9) (k : ∀ r : Int, r = (M 68 a - M 68 b) * (M 68 a - M 68 b) + (M 69 a - M 69 b) * (M 69 a - M 69 b) → post (some (0, 0, 0, 2000000, r)) M) : xa_C xm_I A h0 (d + 1) 265 [(2, 60, 0, 0, 0), (0, 0, l1, u1, a), (0, 0, l2, u2, b)] M post := by
  refine xa_C_arg [(2, 60, 0, 0, 0), (0, 0, 0, 9, a), (0, 0, 0, 9, b)] (xa_svR (xa_svI (fun _ _ _ _ => by omega) (xa_svI (fun _ _ _ _ => by omega) xa_sv0))) (xa_C_wk ?_)
  refine xa_meth (Q0 := (5, 1, false, 0, 0, 12)) (by decide +kernel) ⟨rfl, rfl⟩ (full := s_c_265) rfl rfl ?_
  intro hM hv Q hgo
  have x1 := xm_t68 hM a (by omega) (by omega)
  have x2 := xm_t68 hM b (by omega) (by omega)
  have x3 := xm_t69 hM a (by omega) (by omega)
  have x4 := xm_t69 hM b (by omega) (by omega)
  have m1 := xa_mul_ok (p := -1000) (q := 1000) (r := -1000) (s := 1000) (m := M 68 a - M 68 b) (n := M 68 a - M 68 b) (by omega) (by omega) (by omega) (by omega)
  have m2 := xa_mul_ok (p := -1000) (q := 1000) (r := -1000) (s := 1000) (m := M 69 a - M 69 b) (n := M 69 a - M 69 b) (by omega) (by omega) (by omega) (by omega)
  have n1 := xm_sq (M 68 a - M 68 b)
  have n2 := xm_sq (M 69 a - M 69 b)
  have e1 : xa_mhi (-1000) 1000 (-1000) 1000 = 1000000 := by decide
  rw [e1] at m1 m2
  refine hgo.1 32 [] 0 _ _ _ ?_
  show xa_wk post (some (0, 0, (-2000000), 2000000, (((M 68 a) - (M 68 b)) * ((M 68 a) - (M 68 b))) + (((M 69 a) - (M 69 b)) * ((M 69 a) - (M 69 b))))) M
  exact xa_wkI _ rfl (fun _ _ => by omega) (k _ rfl)
end
