-- joined: 59.xm, 60.xm1, 61.xmt, 62.xm2
section
-- the model's cells: the object at place 60, its arrays at 61 to 105
def xa_nt : List y_R1 → Nat → Option y_R1
  | [], _ => none
  | r :: _, 0 => some r
  | _ :: t, n + 1 => xa_nt t n
def xm_ro (q : Nat) : Nat := bif Nat.beq q 60 then 12 else q - 5
def xm_I : xa_I := fun q => bif Nat.ble 60 q && Nat.ble q 105 then (match xa_nt y_Rm.1 (xm_ro q) with
  | some ro => some (ro, fun j => (y_sp ro j).2.1.toNat + 5)
  | none => none) else none
end
section
-- the model's methods, told of numbers: the plainest (made by wip/p24/xa/xm1.py)
theorem xa_gcd_step {a b : Int} (ha : 0 ≤ a) (hb : 0 ≤ b) : Int.gcd b (a % b) = Int.gcd a b := by
  obtain ⟨m, rfl⟩ := Int.eq_ofNat_of_zero_le ha
  obtain ⟨n, rfl⟩ := Int.eq_ofNat_of_zero_le hb
  show Nat.gcd n (m % n) = Nat.gcd m n
  rw [Nat.gcd_comm n, ← Nat.gcd_rec, Nat.gcd_comm]
theorem ct_abs {A : Nat → Nat} {h0 : g_H} {d : Nat} {M : xa_M} {post : Option xa_V → xa_M → Prop} {I : xa_I} {l u x lo hi : Int} (hx : -9223372036854775808 < x) (k : ∀ r : Int, r = (x.natAbs : Int) → (lo ≤ r ∧ r ≤ hi) ∧ post (some (1, 0, lo, hi, r)) M) : xa_C I A h0 (d + 1) 56 [(1, 0, l, u, x)] M post := by
  obtain ⟨k1, k2⟩ := k _ rfl
  refine xa_C_arg [(1, 0, -9223372036854775807, 9223372036854775807, x)] (xa_svL (fun _ _ _ _ => by omega) xa_sv0) (xa_C_wk ?_)
  refine xa_meth (Q0 := (2, 3, false, 0, 0, 14)) (by decide +kernel) ⟨rfl, rfl⟩ (full := s_c_56) rfl rfl ?_
  intro hM hv Q hgo
  refine hgo.1 11 [] 0 _ _ _ ?_
  refine And.intro ?_ ?_
  · intro (c1 : 0 ≤ x)
    show xa_wk post (some (1, 0, (-9223372036854775807), 9223372036854775807, x)) M
    exact xa_wkL _ (by omega) (fun _ _ => k1) k2
  · intro (c1 : x < 0)
    show xa_wk post (some (1, 0, (-9223372036854775807), 9223372036854775807, -x)) M
    exact xa_wkL _ (by omega) (fun _ _ => k1) k2
theorem ct_in {A : Nat → Nat} {h0 : g_H} {d : Nat} {M : xa_M} {post : Option xa_V → xa_M → Prop} {I : xa_I} {l1 u1 l2 u2 l3 u3 v a b : Int} (k1 : a ≤ v ∧ v ≤ b → post (some (0, 0, 1, 1, 1)) M) (k2 : ¬ (a ≤ v ∧ v ≤ b) → post (some (0, 0, 0, 0, 0)) M) : xa_C I A h0 (d + 1) 214 [(0, 0, l1, u1, v), (0, 0, l2, u2, a), (0, 0, l3, u3, b)] M post := by
  refine xa_C_arg [(0, 0, (-2147483648), 2147483647, v), (0, 0, (-2147483648), 2147483647, a), (0, 0, (-2147483648), 2147483647, b)] (xa_svI (fun _ _ _ _ => by omega) (xa_svI (fun _ _ _ _ => by omega) (xa_svI (fun _ _ _ _ => by omega) xa_sv0))) ?_
  refine xa_meth (Q0 := (3, 2, false, 0, 0, 12)) (by decide +kernel) ⟨rfl, rfl⟩ (full := s_c_214) rfl rfl ?_
  intro hM hv Q hgo
  refine hgo.1 13 [] 0 _ _ _ ?_
  refine And.intro ?_ ?_
  · intro (c1 : v < a)
    show post (some (0, 0, 0, 0, 0)) M
    first | exact k1 (by omega) | exact k2 (by omega)
  · intro (c1 : a ≤ v)
    refine And.intro ?_ ?_
    · intro (c2 : b < v)
      show post (some (0, 0, 0, 0, 0)) M
      first | exact k1 (by omega) | exact k2 (by omega)
    · intro (c2 : v ≤ b)
      show post (some (0, 0, 1, 1, 1)) M
      first | exact k1 (by omega) | exact k2 (by omega)
theorem ct_isAxle {A : Nat → Nat} {h0 : g_H} {d : Nat} {M : xa_M} {post : Option xa_V → xa_M → Prop} {I : xa_I} {l u a : Int} (k1 : 0 ≤ a ∧ a ≤ 9 → post (some (0, 0, 1, 1, 1)) M) (k2 : ¬ (0 ≤ a ∧ a ≤ 9) → post (some (0, 0, 0, 0, 0)) M) : xa_C I A h0 (d + 2) 215 [(0, 0, l, u, a)] M post := by
  refine xa_C_arg [(0, 0, (-2147483648), 2147483647, a)] (xa_svI (fun _ _ _ _ => by omega) xa_sv0) ?_
  refine xa_meth (Q0 := (1, 2, false, 0, 0, 12)) (by decide +kernel) ⟨rfl, rfl⟩ (full := s_c_215) rfl rfl ?_
  intro hM hv Q hgo
  refine hgo.1 9 [] 0 _ _ _ ?_
  show xa_C I A h0 _ 214 [(0, 0, (-2147483648), 2147483647, a), (0, 0, 0, 0, 0), (0, 0, 9, 9, 9)] M _
  refine ct_in ?_ ?_
  · intro (i1 : 0 ≤ a ∧ a ≤ 9)
    show post (some (0, 0, 1, 1, 1)) M
    first | exact k1 (by omega) | exact k2 (by omega)
  · intro (i1 : ¬ (0 ≤ a ∧ a ≤ 9))
    show post (some (0, 0, 0, 0, 0)) M
    first | exact k1 (by omega) | exact k2 (by omega)
theorem ct_isWheel {A : Nat → Nat} {h0 : g_H} {d : Nat} {M : xa_M} {post : Option xa_V → xa_M → Prop} {l u a : Int} (k1 : 0 ≤ a ∧ a < M 60 0 → post (some (0, 0, 1, 1, 1)) M) (k2 : ¬ (0 ≤ a ∧ a < M 60 0) → post (some (0, 0, 0, 0, 0)) M) : xa_C xm_I A h0 (d + 2) 217 [(2, 60, 0, 0, 0), (0, 0, l, u, a)] M post := by
  refine xa_C_arg [(2, 60, 0, 0, 0), (0, 0, (-2147483648), 2147483647, a)] (xa_svR (xa_svI (fun _ _ _ _ => by omega) xa_sv0)) ?_
  refine xa_meth (Q0 := (2, 2, false, 0, 0, 12)) (by decide +kernel) ⟨rfl, rfl⟩ (full := s_c_217) rfl rfl ?_
  intro hM hv Q hgo
  refine hgo.1 12 [] 0 _ _ _ ?_
  show xa_C xm_I A h0 _ 214 [(0, 0, (-2147483648), 2147483647, a), (0, 0, 0, 0, 0), (0, 0, (-1), 13, (M 60 0) - 1)] M _
  refine ct_in ?_ ?_
  · intro (i1 : 0 ≤ a ∧ a ≤ ((M 60 0) - 1))
    show post (some (0, 0, 1, 1, 1)) M
    first | exact k1 (by omega) | exact k2 (by omega)
  · intro (i1 : ¬ (0 ≤ a ∧ a ≤ ((M 60 0) - 1)))
    show post (some (0, 0, 0, 0, 0)) M
    first | exact k1 (by omega) | exact k2 (by omega)
theorem ct_isPeriod {A : Nat → Nat} {h0 : g_H} {d : Nat} {M : xa_M} {post : Option xa_V → xa_M → Prop} {l u a : Int} (k1 : 0 ≤ a ∧ a < M 60 11 → post (some (0, 0, 1, 1, 1)) M) (k2 : ¬ (0 ≤ a ∧ a < M 60 11) → post (some (0, 0, 0, 0, 0)) M) : xa_C xm_I A h0 (d + 2) 239 [(2, 60, 0, 0, 0), (0, 0, l, u, a)] M post := by
  refine xa_C_arg [(2, 60, 0, 0, 0), (0, 0, (-2147483648), 2147483647, a)] (xa_svR (xa_svI (fun _ _ _ _ => by omega) xa_sv0)) ?_
  refine xa_meth (Q0 := (2, 2, false, 0, 0, 12)) (by decide +kernel) ⟨rfl, rfl⟩ (full := s_c_239) rfl rfl ?_
  intro hM hv Q hgo
  refine hgo.1 12 [] 0 _ _ _ ?_
  show xa_C xm_I A h0 _ 214 [(0, 0, (-2147483648), 2147483647, a), (0, 0, 0, 0, 0), (0, 0, (-1), 7, (M 60 11) - 1)] M _
  refine ct_in ?_ ?_
  · intro (i1 : 0 ≤ a ∧ a ≤ ((M 60 11) - 1))
    show post (some (0, 0, 1, 1, 1)) M
    first | exact k1 (by omega) | exact k2 (by omega)
  · intro (i1 : ¬ (0 ≤ a ∧ a ≤ ((M 60 11) - 1)))
    show post (some (0, 0, 0, 0, 0)) M
    first | exact k1 (by omega) | exact k2 (by omega)
theorem ct_tell {A : Nat → Nat} {h0 : g_H} {d : Nat} {M : xa_M} {post : Option xa_V → xa_M → Prop} {l u v n : Int} (hn : M 60 20 = n) (h1 : 0 ≤ n) (h2 : n < 32) (k : post none (xa_up (xa_up M 74 n v) 60 20 (n + 1))) : xa_C xm_I A h0 (d + 1) 231 [(2, 60, 0, 0, 0), (1, 0, l, u, v)] M post := by
  subst hn
  refine xa_C_arg [(2, 60, 0, 0, 0), (1, 0, (-9223372036854775808), 9223372036854775807, v)] (xa_svR (xa_svL (fun _ _ _ _ => by omega) xa_sv0)) ?_
  refine xa_meth (Q0 := (3, 0, false, 0, 0, 12)) (by decide +kernel) ⟨rfl, rfl⟩ (full := s_c_231) rfl rfl ?_
  intro hM hv Q hgo
  refine hgo.1 17 [] 0 _ _ _ ?_
  refine And.intro (show 0 ≤ (M 60 20) ∧ (M 60 20) < 32 by omega) ?_
  refine And.intro (show 0 ≤ ((M 60 20) + 1) ∧ ((M 60 20) + 1) ≤ 32 by omega) ?_
  show post none (xa_up (xa_up M 74 (M 60 20) v) 60 20 ((M 60 20) + 1))
  exact k
theorem ct_gcd {A : Nat → Nat} {h0 : g_H} {d : Nat} {M : xa_M} {post : Option xa_V → xa_M → Prop} {I : xa_I} {l1 u1 l2 u2 x y lo hi g : Int} (hx : -9223372036854775808 < x) (hy : -9223372036854775808 < y) (hg : g = (Int.gcd x y : Int)) (k1 : lo ≤ g ∧ g ≤ hi) (k2 : post (some (1, 0, lo, hi, g)) M) : xa_C I A h0 (d + 2) 229 [(1, 0, l1, u1, x), (1, 0, l2, u2, y)] M post := by
  subst hg
  refine xa_C_arg [(1, 0, (-9223372036854775807), 9223372036854775807, x), (1, 0, (-9223372036854775807), 9223372036854775807, y)] (xa_svL (fun _ _ _ _ => by omega) (xa_svL (fun _ _ _ _ => by omega) xa_sv0)) (xa_C_wk ?_)
  refine xa_meth (Q0 := (10, 3, false, 0, 0, 12)) (by decide +kernel) ⟨rfl, rfl⟩ (full := s_c_229) rfl rfl ?_
  intro hM hv Q hgo
  have v1 : x ≤ 9223372036854775807 := (hv (1, 0, (-9223372036854775807), 9223372036854775807, x) List.mem_cons_self (show (1 : Nat) < 2 by decide)).2
  have v2 : y ≤ 9223372036854775807 := (hv (1, 0, (-9223372036854775807), 9223372036854775807, y) (List.mem_cons_of_mem _ List.mem_cons_self) (show (1 : Nat) < 2 by decide)).2
  have loop : ∀ (n : Nat) (a b : Int), 0 ≤ a → 0 ≤ b → b < (n : Int) → a ≤ 9223372036854775807 → b ≤ 9223372036854775807 → Int.gcd a b = Int.gcd x y → Q 12 [(6, (1, 0, 0, 9223372036854775807, b)), (4, (1, 0, 0, 9223372036854775807, a))] [] M := by
    intro n
    induction n with
    | zero => intro a b h1 h2 h3; omega
    | succ n ih =>
      intro a b h1 h2 h3 h4 h5 h6
      refine hgo.1 17 [12] 12 _ _ _ ?_
      refine And.intro ?_ ?_
      · intro (c1 : b = 0)
        show xa_wk post (some (1, 0, 0, 9223372036854775807, a)) M
        have e : ((Int.gcd x y : Nat) : Int) = a := by
          rw [← h6, c1, Int.gcd_zero_right]
          omega
        exact xa_wkL _ e.symm (fun _ _ => k1) k2
      · intro (c1 : ¬ b = 0)
        refine And.intro (show 0 < b by omega) ?_
        show Q 12 [(6, (1, 0, 0, 9223372036854775806, a % b)), (4, (1, 0, 0, 9223372036854775807, b)), (8, (1, 0, 0, 9223372036854775806, a % b))] [] M
        refine hgo.2.1 12 _ [(6, (1, 0, 0, 9223372036854775807, a % b)), (4, (1, 0, 0, 9223372036854775807, b))] _ _ (xa_subL rfl rfl (fun _ _ _ _ => by omega) (xa_subL rfl rfl (fun _ _ _ _ => by omega) xa_sub0)) ?_
        have e1 := Int.emod_nonneg a (show b ≠ 0 by omega)
        have e2 := Int.emod_lt_of_pos a (show 0 < b by omega)
        exact ih b (a % b) (by omega) (by omega) (by omega) (by omega) (by omega) (by rw [← h6]; exact xa_gcd_step h1 h2)
  refine hgo.1 11 [12] 0 _ _ _ ?_
  show xa_C I A h0 _ 56 [(1, 0, (-9223372036854775807), 9223372036854775807, x)] M _
  refine ct_abs (lo := 0) (hi := 9223372036854775807) (by omega) (fun a1 ea1 => ⟨by omega, ?_⟩)
  show xa_C I A h0 _ 56 [(1, 0, (-9223372036854775807), 9223372036854775807, y)] M _
  refine ct_abs (lo := 0) (hi := 9223372036854775807) (by omega) (fun a2 ea2 => ⟨by omega, ?_⟩)
  show Q 12 [(6, (1, 0, 0, 9223372036854775807, a2)), (4, (1, 0, 0, 9223372036854775807, a1)), (0, (1, 0, (-9223372036854775807), 9223372036854775807, x)), (2, (1, 0, (-9223372036854775807), 9223372036854775807, y))] [] M
  refine hgo.2.1 12 _ [(6, (1, 0, 0, 9223372036854775807, a2)), (4, (1, 0, 0, 9223372036854775807, a1))] _ _ (xa_subL rfl rfl (fun _ _ _ _ => by omega) (xa_subL rfl rfl (fun _ _ _ _ => by omega) xa_sub0)) ?_
  exact loop (a2.toNat + 1) a1 a2 (by omega) (by omega) (by omega) (by omega) (by omega) (by rw [ea1, ea2]; rfl)
end
section
-- bounds of the model's cells; what is left alone (made by wip/p24/xa/xm2.py)
section XM
variable {M M1 M2 : xa_M}
theorem xm_f0 (hM : xa_Mok xm_I M) : 0 ≤ M 60 0 ∧ M 60 0 ≤ 14 := hM 60 _ _ rfl 0 (by decide) (show (0 : Nat) < 2 by decide)
theorem xm_t61 (hM : xa_Mok xm_I M) (j : Int) (h0 : 0 ≤ j) (h1 : j < 14) : 0 ≤ M 61 j ∧ M 61 j ≤ 400 := by
  obtain ⟨n, rfl⟩ := Int.eq_ofNat_of_zero_le h0
  exact hM 61 _ _ rfl n (show n < 14 by omega) (show (0 : Nat) < 2 by decide)
theorem xm_t62 (hM : xa_Mok xm_I M) (j : Int) (h0 : 0 ≤ j) (h1 : j < 14) : 0 ≤ M 62 j ∧ M 62 j ≤ 400 := by
  obtain ⟨n, rfl⟩ := Int.eq_ofNat_of_zero_le h0
  exact hM 62 _ _ rfl n (show n < 14 by omega) (show (0 : Nat) < 2 by decide)
theorem xm_t63 (hM : xa_Mok xm_I M) (j : Int) (h0 : 0 ≤ j) (h1 : j < 14) : 0 ≤ M 63 j ∧ M 63 j ≤ 400 := by
  obtain ⟨n, rfl⟩ := Int.eq_ofNat_of_zero_le h0
  exact hM 63 _ _ rfl n (show n < 14 by omega) (show (0 : Nat) < 2 by decide)
theorem xm_t64 (hM : xa_Mok xm_I M) (j : Int) (h0 : 0 ≤ j) (h1 : j < 14) : 0 ≤ M 64 j ∧ M 64 j ≤ 9 := by
  obtain ⟨n, rfl⟩ := Int.eq_ofNat_of_zero_le h0
  exact hM 64 _ _ rfl n (show n < 14 by omega) (show (0 : Nat) < 2 by decide)
theorem xm_t65 (hM : xa_Mok xm_I M) (j : Int) (h0 : 0 ≤ j) (h1 : j < 14) : 0 ≤ M 65 j ∧ M 65 j ≤ 9 := by
  obtain ⟨n, rfl⟩ := Int.eq_ofNat_of_zero_le h0
  exact hM 65 _ _ rfl n (show n < 14 by omega) (show (0 : Nat) < 2 by decide)
theorem xm_f6 (hM : xa_Mok xm_I M) : 0 ≤ M 60 6 ∧ M 60 6 ≤ 16 := hM 60 _ _ rfl 6 (by decide) (show (0 : Nat) < 2 by decide)
theorem xm_t66 (hM : xa_Mok xm_I M) (j : Int) (h0 : 0 ≤ j) (h1 : j < 16) : 0 ≤ M 66 j ∧ M 66 j ≤ 13 := by
  obtain ⟨n, rfl⟩ := Int.eq_ofNat_of_zero_le h0
  exact hM 66 _ _ rfl n (show n < 16 by omega) (show (0 : Nat) < 2 by decide)
theorem xm_t67 (hM : xa_Mok xm_I M) (j : Int) (h0 : 0 ≤ j) (h1 : j < 16) : 0 ≤ M 67 j ∧ M 67 j ≤ 13 := by
  obtain ⟨n, rfl⟩ := Int.eq_ofNat_of_zero_le h0
  exact hM 67 _ _ rfl n (show n < 16 by omega) (show (0 : Nat) < 2 by decide)
theorem xm_t68 (hM : xa_Mok xm_I M) (j : Int) (h0 : 0 ≤ j) (h1 : j < 10) : (-500) ≤ M 68 j ∧ M 68 j ≤ 500 := by
  obtain ⟨n, rfl⟩ := Int.eq_ofNat_of_zero_le h0
  exact hM 68 _ _ rfl n (show n < 10 by omega) (show (0 : Nat) < 2 by decide)
theorem xm_t69 (hM : xa_Mok xm_I M) (j : Int) (h0 : 0 ≤ j) (h1 : j < 10) : (-500) ≤ M 69 j ∧ M 69 j ≤ 500 := by
  obtain ⟨n, rfl⟩ := Int.eq_ofNat_of_zero_le h0
  exact hM 69 _ _ rfl n (show n < 10 by omega) (show (0 : Nat) < 2 by decide)
theorem xm_f11 (hM : xa_Mok xm_I M) : 0 ≤ M 60 11 ∧ M 60 11 ≤ 8 := hM 60 _ _ rfl 11 (by decide) (show (0 : Nat) < 2 by decide)
theorem xm_t70 (hM : xa_Mok xm_I M) (j : Int) (h0 : 0 ≤ j) (h1 : j < 8) : 0 ≤ M 70 j ∧ M 70 j ≤ 2000 := by
  obtain ⟨n, rfl⟩ := Int.eq_ofNat_of_zero_le h0
  exact hM 70 _ _ rfl n (show n < 8 by omega) (show (0 : Nat) < 2 by decide)
theorem xm_t71 (hM : xa_Mok xm_I M) (j : Int) (h0 : 0 ≤ j) (h1 : j < 8) : 0 ≤ M 71 j ∧ M 71 j ≤ 2000 := by
  obtain ⟨n, rfl⟩ := Int.eq_ofNat_of_zero_le h0
  exact hM 71 _ _ rfl n (show n < 8 by omega) (show (0 : Nat) < 2 by decide)
theorem xm_f15 (hM : xa_Mok xm_I M) : 10 ≤ M 60 15 ∧ M 60 15 ≤ 400 := hM 60 _ _ rfl 15 (by decide) (show (0 : Nat) < 2 by decide)
theorem xm_f16 (hM : xa_Mok xm_I M) : 10 ≤ M 60 16 ∧ M 60 16 ≤ 400 := hM 60 _ _ rfl 16 (by decide) (show (0 : Nat) < 2 by decide)
theorem xm_t73 (hM : xa_Mok xm_I M) (j : Int) (h0 : 0 ≤ j) (h1 : j < 80) : (-128) ≤ M 73 j ∧ M 73 j ≤ 127 := by
  obtain ⟨n, rfl⟩ := Int.eq_ofNat_of_zero_le h0
  exact hM 73 _ _ rfl n (show n < 80 by omega) (show (0 : Nat) < 2 by decide)
theorem xm_f18 (hM : xa_Mok xm_I M) : 0 ≤ M 60 18 ∧ M 60 18 ≤ 80 := hM 60 _ _ rfl 18 (by decide) (show (0 : Nat) < 2 by decide)
theorem xm_f20 (hM : xa_Mok xm_I M) : 0 ≤ M 60 20 ∧ M 60 20 ≤ 32 := hM 60 _ _ rfl 20 (by decide) (show (0 : Nat) < 2 by decide)
theorem xm_t75 (hM : xa_Mok xm_I M) (j : Int) (h0 : 0 ≤ j) (h1 : j < 10) : (-1000000000000000) ≤ M 75 j ∧ M 75 j ≤ 1000000000000000 := by
  obtain ⟨n, rfl⟩ := Int.eq_ofNat_of_zero_le h0
  exact hM 75 _ _ rfl n (show n < 10 by omega) (show (1 : Nat) < 2 by decide)
theorem xm_t76 (hM : xa_Mok xm_I M) (j : Int) (h0 : 0 ≤ j) (h1 : j < 10) : 0 ≤ M 76 j ∧ M 76 j ≤ 1000000000000000 := by
  obtain ⟨n, rfl⟩ := Int.eq_ofNat_of_zero_le h0
  exact hM 76 _ _ rfl n (show n < 10 by omega) (show (1 : Nat) < 2 by decide)
theorem xm_t77 (hM : xa_Mok xm_I M) (j : Int) (h0 : 0 ≤ j) (h1 : j < 10) : 0 ≤ M 77 j ∧ M 77 j ≤ 1 := by
  obtain ⟨n, rfl⟩ := Int.eq_ofNat_of_zero_le h0
  exact hM 77 _ _ rfl n (show n < 10 by omega) (show (0 : Nat) < 2 by decide)
theorem xm_t78 (hM : xa_Mok xm_I M) (j : Int) (h0 : 0 ≤ j) (h1 : j < 10) : 0 ≤ M 78 j ∧ M 78 j ≤ 99 := by
  obtain ⟨n, rfl⟩ := Int.eq_ofNat_of_zero_le h0
  exact hM 78 _ _ rfl n (show n < 10 by omega) (show (0 : Nat) < 2 by decide)
theorem xm_f29 (hM : xa_Mok xm_I M) : 0 ≤ M 60 29 ∧ M 60 29 ≤ 10 := hM 60 _ _ rfl 29 (by decide) (show (0 : Nat) < 2 by decide)
theorem xm_t80 (hM : xa_Mok xm_I M) (j : Int) (h0 : 0 ≤ j) (h1 : j < 14) : 0 ≤ M 80 j ∧ M 80 j ≤ 13 := by
  obtain ⟨n, rfl⟩ := Int.eq_ofNat_of_zero_le h0
  exact hM 80 _ _ rfl n (show n < 14 by omega) (show (0 : Nat) < 2 by decide)
theorem xm_f32 (hM : xa_Mok xm_I M) : 0 ≤ M 60 32 ∧ M 60 32 ≤ 14 := hM 60 _ _ rfl 32 (by decide) (show (0 : Nat) < 2 by decide)
theorem xm_t84 (hM : xa_Mok xm_I M) (j : Int) (h0 : 0 ≤ j) (h1 : j < 14) : 0 ≤ M 84 j ∧ M 84 j ≤ 400 := by
  obtain ⟨n, rfl⟩ := Int.eq_ofNat_of_zero_le h0
  exact hM 84 _ _ rfl n (show n < 14 by omega) (show (0 : Nat) < 2 by decide)
theorem xm_f40 (hM : xa_Mok xm_I M) : 0 ≤ M 60 40 ∧ M 60 40 ≤ 80 := hM 60 _ _ rfl 40 (by decide) (show (0 : Nat) < 2 by decide)
theorem xm_f41 (hM : xa_Mok xm_I M) : 0 ≤ M 60 41 ∧ M 60 41 ≤ 100 := hM 60 _ _ rfl 41 (by decide) (show (0 : Nat) < 2 by decide)
theorem xm_f56 (hM : xa_Mok xm_I M) : 0 ≤ M 60 56 ∧ M 60 56 ≤ 20 := hM 60 _ _ rfl 56 (by decide) (show (0 : Nat) < 2 by decide)
theorem xm_f59 (hM : xa_Mok xm_I M) : 0 ≤ M 60 59 ∧ M 60 59 ≤ 8 := hM 60 _ _ rfl 59 (by decide) (show (0 : Nat) < 2 by decide)
theorem xm_f61 (hM : xa_Mok xm_I M) : 0 ≤ M 60 61 ∧ M 60 61 ≤ 12 := hM 60 _ _ rfl 61 (by decide) (show (0 : Nat) < 2 by decide)
theorem xm_t105 (hM : xa_Mok xm_I M) (j : Int) (h0 : 0 ≤ j) (h1 : j < 4) : 0 ≤ M 105 j ∧ M 105 j ≤ 1 := by
  obtain ⟨n, rfl⟩ := Int.eq_ofNat_of_zero_le h0
  exact hM 105 _ _ rfl n (show n < 4 by omega) (show (0 : Nat) < 2 by decide)
abbrev xm_scr (q : Nat) (j : Int) : Prop := (74 ≤ q ∧ q ≤ 95) ∨ (q = 60 ∧ ((20 ≤ j ∧ j ≤ 53) ∨ j = 68))
/-- the lasting cells are the same -/
def xm_cor (M M' : xa_M) : Prop := ∀ q j, ¬ xm_scr q j → M' q j = M q j
theorem xm_cor_r : xm_cor M M := fun _ _ _ => rfl
theorem xm_cor_t (h : xm_cor M M1) (h2 : xm_cor M1 M2) : xm_cor M M2 := fun q j hn => (h2 q j hn).trans (h q j hn)
theorem xm_cor_u {q : Nat} {j v : Int} (hs : xm_scr q j) (h : xm_cor M M1) : xm_cor M (xa_up M1 q j v) := by
  intro q' j' hn
  rw [xa_up_ne (fun e => hn (by rw [e.1, e.2]; exact hs))]
  exact h q' j' hn
theorem xm_cor_a {q : Nat} {j v : Int} (hq : (Nat.ble 74 q && Nat.ble q 95) = true) (h : xm_cor M M1) : xm_cor M (xa_up M1 q j v) := by
  rw [Bool.and_eq_true, Nat.ble_eq, Nat.ble_eq] at hq
  exact xm_cor_u (Or.inl hq) h
theorem xm_cor_f {j v : Int} (hj : (20 ≤ j ∧ j ≤ 53) ∨ j = 68) (h : xm_cor M M1) : xm_cor M (xa_up M1 60 j v) := xm_cor_u (Or.inr ⟨rfl, hj⟩) h
theorem xm_corq (h : xm_cor M M1) (q : Nat) (hq : (Nat.ble 61 q && (Nat.ble q 73 || Nat.ble 96 q)) = true) (j : Int) : M1 q j = M q j := by
  rw [Bool.and_eq_true, Bool.or_eq_true, Nat.ble_eq, Nat.ble_eq, Nat.ble_eq] at hq
  exact h q j (fun h => by omega)
theorem xm_corf (h : xm_cor M M1) (j : Int) (hj : ¬ ((20 ≤ j ∧ j ≤ 53) ∨ j = 68)) : M1 60 j = M 60 j := h 60 j (fun h => by omega)
/-- a kept build is one -/
def xm_bld (M : xa_M) (i : Int) : Prop := (0 ≤ M 104 (124 * i) ∧ M 104 (124 * i) ≤ 14) ∧ (∀ w, 0 ≤ w → w < 14 → (0 ≤ M 104 (124 * i + 1 + 5 * w) ∧ M 104 (124 * i + 1 + 5 * w) ≤ 400) ∧ (0 ≤ M 104 (124 * i + 2 + 5 * w) ∧ M 104 (124 * i + 2 + 5 * w) ≤ 400) ∧ (0 ≤ M 104 (124 * i + 3 + 5 * w) ∧ M 104 (124 * i + 3 + 5 * w) ≤ 400) ∧ (0 ≤ M 104 (124 * i + 4 + 5 * w) ∧ M 104 (124 * i + 4 + 5 * w) ≤ 9) ∧ (0 ≤ M 104 (124 * i + 5 + 5 * w) ∧ M 104 (124 * i + 5 + 5 * w) ≤ 9) ∧ (w < M 104 (124 * i) → 10 ≤ M 104 (124 * i + 1 + 5 * w) ∧ M 104 (124 * i + 1 + 5 * w) ≤ M 104 (124 * i + 2 + 5 * w) ∧ 10 ≤ M 104 (124 * i + 3 + 5 * w))) ∧
  (0 ≤ M 104 (124 * i + 71) ∧ M 104 (124 * i + 71) ≤ 16) ∧ (∀ m, 0 ≤ m → m < 16 → (0 ≤ M 104 (124 * i + 72 + 2 * m) ∧ M 104 (124 * i + 72 + 2 * m) ≤ 13) ∧ (0 ≤ M 104 (124 * i + 73 + 2 * m) ∧ M 104 (124 * i + 73 + 2 * m) ≤ 13) ∧ (m < M 104 (124 * i + 71) → M 104 (124 * i + 72 + 2 * m) < M 104 (124 * i) ∧ M 104 (124 * i + 73 + 2 * m) < M 104 (124 * i))) ∧
  ∀ a, 0 ≤ a → a < 10 → (-500 ≤ M 104 (124 * i + 104 + 2 * a) ∧ M 104 (124 * i + 104 + 2 * a) ≤ 500) ∧ (-500 ≤ M 104 (124 * i + 105 + 2 * a) ∧ M 104 (124 * i + 105 + 2 * a) ≤ 500)
/-- what holds between calls, besides the cells' bounds -/
def xm_Inv (M : xa_M) : Prop := (∀ w, 0 ≤ w → w < M 60 0 → 10 ≤ M 61 w ∧ M 61 w ≤ M 62 w ∧ 10 ≤ M 63 w) ∧ (∀ m, 0 ≤ m → m < M 60 6 → M 66 m < M 60 0 ∧ M 67 m < M 60 0) ∧ (∀ p, 0 ≤ p → p < M 60 11 → 1 ≤ M 70 p ∧ 1 ≤ M 71 p) ∧ M 60 15 ≤ M 60 16 ∧ ∀ i, 0 ≤ i → i < 4 → M 105 i = 1 → xm_bld M i
theorem xm_Inv_cor (h : xm_cor M M1) (hI : xm_Inv M) : xm_Inv M1 := by
  have e0 := xm_corf h 0 (by omega)
  have e6 := xm_corf h 6 (by omega)
  have e11 := xm_corf h 11 (by omega)
  have e15 := xm_corf h 15 (by omega)
  have e16 := xm_corf h 16 (by omega)
  have a := fun q hq j => xm_corq h q hq j
  obtain ⟨h1, h2, h3, h4, h5⟩ := hI
  refine ⟨fun w w0 w1 => ?_, fun m m0 m1 => ?_, fun p p0 p1 => ?_, ?_, fun i i0 i1 i2 => ?_⟩
  · rw [a 61 rfl, a 62 rfl, a 63 rfl]
    exact h1 w w0 (by omega)
  · rw [a 66 rfl, a 67 rfl, e0]
    exact h2 m m0 (by omega)
  · rw [a 70 rfl, a 71 rfl]
    exact h3 p p0 (by omega)
  · omega
  · rw [a 105 rfl] at i2
    have := h5 i i0 i1 i2
    unfold xm_bld at this ⊢
    simp only [a 104 rfl]
    exact this
end XM
theorem xa_C_asm {I : xa_I} {A : Nat → Nat} {h0 : g_H} {d j : Nat} {vs : List xa_V} {M : xa_M} {post : Option xa_V → xa_M → Prop} (k : xa_Mok I M → (∀ v ∈ vs, xa_vok v) → xa_C I A h0 d j vs M post) : xa_C I A h0 d j vs M post := by
  intro h xs hH hA post' hp
  have hvs : ∀ {vs : List xa_V} {xs : List Value}, xa_gS A vs xs → ∀ v ∈ vs, xa_vok v := by
    intro vs
    induction vs with
    | nil => intro xs _ v hv; cases hv
    | cons w ws ih =>
      intro xs hS v hv
      obtain ⟨x, ys, rfl, hg, hS'⟩ := xa_gS_cons hS
      rcases List.mem_cons.mp hv with rfl | hv
      · exact fun hk => xa_num hk hg
      · exact ih hS' v hv
  exact k (xa_H_Mok hH) (hvs hA) h xs hH hA post' hp
theorem xa_C_mok {I : xa_I} {A : Nat → Nat} {h0 : g_H} {d j : Nat} {vs : List xa_V} {M : xa_M} {post : Option xa_V → xa_M → Prop} (k : xa_C I A h0 d j vs M (fun o M' => xa_Mok I M' → post o M')) : xa_C I A h0 d j vs M post := fun h xs hH hA post' hp => k h xs hH hA post' (fun v M' x h' hv hx hH' => hp v M' x h' (hv (xa_H_Mok hH')) hx hH')
theorem xa_v1 {v : xa_V} {vs : List xa_V} (h : ∀ w ∈ v :: vs, xa_vok w) : xa_vok v := h _ List.mem_cons_self
theorem xa_v2 {v u : xa_V} {vs : List xa_V} (h : ∀ w ∈ u :: v :: vs, xa_vok w) : xa_vok v := h _ (List.mem_cons_of_mem _ List.mem_cons_self)
theorem ct_gcd1 {A : Nat → Nat} {h0 : g_H} {d : Nat} {M : xa_M} {post : Option xa_V → xa_M → Prop} {I : xa_I} {l1 u1 l2 u2 x y : Int} (hl1 : -9223372036854775808 < l1) (hl2 : -9223372036854775808 < l2) (hy1 : 1 ≤ y) (k : ∀ g : Int, g = (Int.gcd x y : Int) → 1 ≤ g → g ≤ y → post (some (1, 0, 1, 9223372036854775807, g)) M) : xa_C I A h0 (d + 2) 229 [(1, 0, l1, u1, x), (1, 0, l2, u2, y)] M post := by
  refine xa_C_asm (fun hM hv => ?_)
  have v1 : l1 ≤ x ∧ x ≤ u1 := xa_v1 hv (show (1 : Nat) < 2 by decide)
  have v2 : l2 ≤ y ∧ y ≤ u2 := xa_v2 hv (show (1 : Nat) < 2 by decide)
  refine xa_C_arg [(1, 0, -9223372036854775807, 9223372036854775807, x), (1, 0, -9223372036854775807, 9223372036854775807, y)] (xa_svL (fun _ _ _ _ => by omega) (xa_svL (fun _ _ _ _ => by omega) xa_sv0)) (xa_C_asm (fun _ hv => ?_))
  have v3 : -9223372036854775807 ≤ y ∧ y ≤ 9223372036854775807 := xa_v2 hv (show (1 : Nat) < 2 by decide)
  have hd : ((Int.gcd x y : Nat) : Int) ∣ y := Int.gcd_dvd_right ..
  have hle := Int.le_of_dvd (by omega) hd
  have hpos : 1 ≤ ((Int.gcd x y : Nat) : Int) := by
    rcases Nat.eq_zero_or_pos (Int.gcd x y) with h | h
    · obtain ⟨c, hc⟩ := hd
      rw [h] at hc
      simp at hc
      omega
    · omega
  exact ct_gcd (lo := 1) (hi := 9223372036854775807) (by omega) (by omega) rfl ⟨by omega, by omega⟩ (k _ rfl hpos hle)
theorem ct_absb {A : Nat → Nat} {h0 : g_H} {d : Nat} {M : xa_M} {post : Option xa_V → xa_M → Prop} {I : xa_I} {l u x : Int} (hi : Int) (hl : -9223372036854775808 < l) (h1 : -hi ≤ l) (h2 : u ≤ hi) (k : ∀ r : Int, r = (x.natAbs : Int) → post (some (1, 0, 0, hi, r)) M) : xa_C I A h0 (d + 1) 56 [(1, 0, l, u, x)] M post := by
  refine xa_C_asm (fun hM hv => ?_)
  have v1 : l ≤ x ∧ x ≤ u := xa_v1 hv (show (1 : Nat) < 2 by decide)
  exact ct_abs (by omega) (fun r e => ⟨by omega, k r e⟩)
end
section
-- the model's turns (made by wip/p24/xa/xm2.py)
set_option maxRecDepth 20000
def xm_meshed (M : xa_M) (a b : Int) : Prop := ∃ m, 0 ≤ m ∧ m < M 60 6 ∧ (M 66 m = a ∧ M 67 m = b ∨ M 66 m = b ∧ M 67 m = a)
def xm_led (M : xa_M) (a b c u l : Int) : Prop := ∃ g : Int, g = (Int.gcd (-(M 75 a) * M 63 b) (M 76 a * M 63 c) : Int) ∧ u = (-(M 75 a) * M 63 b).tdiv g ∧ l = (M 76 a * M 63 c) / g
theorem xm_mulb {p q : Int} (h1 : -1000000000000000 ≤ p) (h2 : p ≤ 1000000000000000) (h3 : 0 ≤ q) (h4 : q ≤ 400) : -400000000000000000 ≤ p * q ∧ p * q ≤ 400000000000000000 := xa_mul_ok h1 h2 h3 h4
theorem xm_tdb {x g B : Int} (hg : 1 ≤ g) (h1 : -B ≤ x) (h2 : x ≤ B) : -B ≤ x.tdiv g ∧ x.tdiv g ≤ B := by
  obtain ⟨d1, d2, -⟩ := xa_tdv (m := x) (n := g) (B := B + 1) (by omega) (by omega) (by omega)
  have e := Int.natAbs_tdiv_le_natAbs x g
  omega
theorem xm_edb {y g B : Int} (hg : 1 ≤ g) (h : g ≤ y) (h2 : y ≤ B) : 1 ≤ y / g ∧ y / g ≤ B := by
  have e1 := Int.le_ediv_of_mul_le (show 0 < g by omega) (show 1 * g ≤ y by omega)
  have e2 := Int.ediv_le_self g (show 0 ≤ y by omega)
  omega
theorem ct_areMeshed {A : Nat → Nat} {h0 : g_H} {d : Nat} {M : xa_M} {post : Option xa_V → xa_M → Prop} {l1 u1 l2 u2 : Int} {a b : Int} (k : ∀ r : Int, (r = 0 ∨ r = 1) → (r = 1 ↔ xm_meshed M a b) → post (some (0, 0, 0, 1, r)) M) : xa_C xm_I A h0 (d + 1) 221 [(2, 60, 0, 0, 0), (0, 0, l1, u1, a), (0, 0, l2, u2, b)] M post := by
  refine xa_C_arg [(2, 60, 0, 0, 0), (0, 0, (-2147483648), 2147483647, a), (0, 0, (-2147483648), 2147483647, b)] (xa_svR (xa_svI (fun _ _ _ _ => by omega) (xa_svI (fun _ _ _ _ => by omega) xa_sv0))) (xa_C_wk ?_)
  refine xa_meth (Q0 := (4, 2, false, 0, 0, 12)) (by decide +kernel) ⟨rfl, rfl⟩ (full := s_c_221) rfl rfl ?_
  intro hM hv Q hgo
  have b6 := xm_f6 hM
  have loop : ∀ (n : Nat) (m : Int), 0 ≤ m → m ≤ 16 → (∀ i, 0 ≤ i → i < m → ¬ (M 66 i = a ∧ M 67 i = b ∨ M 66 i = b ∧ M 67 i = a)) → 16 - m < (n : Int) → Q 2 [(3, (0, 0, 0, 16, m)), (0, (2, 60, 0, 0, 0)), (1, (0, 0, (-2147483648), 2147483647, a)), (2, (0, 0, (-2147483648), 2147483647, b))] [] M := by
    intro n
    induction n with
    | zero => intro m h1 h2 hno hms; omega
    | succ n ih =>
      intro m h1 h2 hno hms
      refine hgo.1 35 [2] 2 _ _ _ ?_
      refine And.intro ?_ ?_
      · intro (c1 : (M 60 6) ≤ m)
        show xa_wk post (some (0, 0, 0, 0, 0)) M
        exact xa_wkI 0 rfl (fun _ _ => by omega) (k 0 (Or.inl rfl) (iff_of_false (by decide) (fun ⟨i, i1, i2, i3⟩ => hno i i1 (by omega) i3)))
      · intro (c1 : m < (M 60 6))
        refine And.intro (show 0 ≤ m ∧ m < 16 by omega) ?_
        refine And.intro ?_ ?_
        · intro (c2 : ¬ (M 66 m) = a)
          refine And.intro (show 0 ≤ m ∧ m < 16 by omega) ?_
          refine And.intro ?_ ?_
          · intro (c3 : ¬ (M 66 m) = b)
            show Q 2 [(3, (0, 0, 1, 17, m + 1)), (0, (2, 60, 0, 0, 0)), (1, (0, 0, (-2147483648), 2147483647, a)), (2, (0, 0, (-2147483648), 2147483647, b))] [] M
            refine hgo.2.1 2 _ [(3, (0, 0, 0, 16, m + 1)), (0, (2, 60, 0, 0, 0)), (1, (0, 0, (-2147483648), 2147483647, a)), (2, (0, 0, (-2147483648), 2147483647, b))] _ _ (xa_subI rfl rfl (fun _ _ _ _ => by omega) (xa_subR rfl (xa_subI rfl rfl (fun _ _ _ _ => by omega) (xa_subI rfl rfl (fun _ _ _ _ => by omega) xa_sub0)))) ?_
            exact ih (m + 1) (by omega) (by omega) (fun i i1 i2 => by
              by_cases e : i = m
              · subst e
                omega
              · exact hno i i1 (by omega)) (by omega)
          · intro (c3 : (M 66 m) = b)
            refine And.intro (show 0 ≤ m ∧ m < 16 by omega) ?_
            refine And.intro ?_ ?_
            · intro (c4 : ¬ (M 67 m) = a)
              show Q 2 [(3, (0, 0, 1, 17, m + 1)), (0, (2, 60, 0, 0, 0)), (1, (0, 0, (-2147483648), 2147483647, a)), (2, (0, 0, (-2147483648), 2147483647, b))] [] M
              refine hgo.2.1 2 _ [(3, (0, 0, 0, 16, m + 1)), (0, (2, 60, 0, 0, 0)), (1, (0, 0, (-2147483648), 2147483647, a)), (2, (0, 0, (-2147483648), 2147483647, b))] _ _ (xa_subI rfl rfl (fun _ _ _ _ => by omega) (xa_subR rfl (xa_subI rfl rfl (fun _ _ _ _ => by omega) (xa_subI rfl rfl (fun _ _ _ _ => by omega) xa_sub0)))) ?_
              exact ih (m + 1) (by omega) (by omega) (fun i i1 i2 => by
                by_cases e : i = m
                · subst e
                  omega
                · exact hno i i1 (by omega)) (by omega)
            · intro (c4 : (M 67 m) = a)
              show xa_wk post (some (0, 0, 1, 1, 1)) M
              exact xa_wkI 1 rfl (fun _ _ => by omega) (k 1 (Or.inr rfl) (iff_of_true rfl ⟨m, by omega, by omega, by omega⟩))
        · intro (c2 : (M 66 m) = a)
          refine And.intro (show 0 ≤ m ∧ m < 16 by omega) ?_
          refine And.intro ?_ ?_
          · intro (c5 : (M 67 m) = b)
            show xa_wk post (some (0, 0, 1, 1, 1)) M
            exact xa_wkI 1 rfl (fun _ _ => by omega) (k 1 (Or.inr rfl) (iff_of_true rfl ⟨m, by omega, by omega, by omega⟩))
          · intro (c5 : ¬ (M 67 m) = b)
            refine And.intro (show 0 ≤ m ∧ m < 16 by omega) ?_
            refine And.intro ?_ ?_
            · intro (c6 : ¬ (M 66 m) = b)
              show Q 2 [(3, (0, 0, 1, 17, m + 1)), (0, (2, 60, 0, 0, 0)), (1, (0, 0, (-2147483648), 2147483647, a)), (2, (0, 0, (-2147483648), 2147483647, b))] [] M
              refine hgo.2.1 2 _ [(3, (0, 0, 0, 16, m + 1)), (0, (2, 60, 0, 0, 0)), (1, (0, 0, (-2147483648), 2147483647, a)), (2, (0, 0, (-2147483648), 2147483647, b))] _ _ (xa_subI rfl rfl (fun _ _ _ _ => by omega) (xa_subR rfl (xa_subI rfl rfl (fun _ _ _ _ => by omega) (xa_subI rfl rfl (fun _ _ _ _ => by omega) xa_sub0)))) ?_
              exact ih (m + 1) (by omega) (by omega) (fun i i1 i2 => by
                by_cases e : i = m
                · subst e
                  omega
                · exact hno i i1 (by omega)) (by omega)
            · intro (c6 : (M 66 m) = b)
              refine And.intro (show 0 ≤ m ∧ m < 16 by omega) ?_
              refine And.intro ?_ ?_
              · intro (c7 : ¬ (M 67 m) = a)
                show Q 2 [(3, (0, 0, 1, 17, m + 1)), (0, (2, 60, 0, 0, 0)), (1, (0, 0, (-2147483648), 2147483647, a)), (2, (0, 0, (-2147483648), 2147483647, b))] [] M
                refine hgo.2.1 2 _ [(3, (0, 0, 0, 16, m + 1)), (0, (2, 60, 0, 0, 0)), (1, (0, 0, (-2147483648), 2147483647, a)), (2, (0, 0, (-2147483648), 2147483647, b))] _ _ (xa_subI rfl rfl (fun _ _ _ _ => by omega) (xa_subR rfl (xa_subI rfl rfl (fun _ _ _ _ => by omega) (xa_subI rfl rfl (fun _ _ _ _ => by omega) xa_sub0)))) ?_
                exact ih (m + 1) (by omega) (by omega) (fun i i1 i2 => by
                  by_cases e : i = m
                  · subst e
                    omega
                  · exact hno i i1 (by omega)) (by omega)
              · intro (c7 : (M 67 m) = a)
                show xa_wk post (some (0, 0, 1, 1, 1)) M
                exact xa_wkI 1 rfl (fun _ _ => by omega) (k 1 (Or.inr rfl) (iff_of_true rfl ⟨m, by omega, by omega, by omega⟩))
  refine hgo.1 7 [2] 0 _ _ _ ?_
  show Q 2 [(3, (0, 0, 0, 0, 0)), (0, (2, 60, 0, 0, 0)), (1, (0, 0, (-2147483648), 2147483647, a)), (2, (0, 0, (-2147483648), 2147483647, b))] [] M
  refine hgo.2.1 2 _ [(3, (0, 0, 0, 16, 0)), (0, (2, 60, 0, 0, 0)), (1, (0, 0, (-2147483648), 2147483647, a)), (2, (0, 0, (-2147483648), 2147483647, b))] _ _ (xa_subI rfl rfl (fun _ _ _ _ => by omega) (xa_subR rfl (xa_subI rfl rfl (fun _ _ _ _ => by omega) (xa_subI rfl rfl (fun _ _ _ _ => by omega) xa_sub0)))) ?_
  exact loop 17 0 (by omega) (by omega) (fun i i1 i2 => by omega) (by omega)
theorem ct_tellPart {A : Nat → Nat} {h0 : g_H} {d : Nat} {M : xa_M} {post : Option xa_V → xa_M → Prop} {l1 u1 l2 u2 a b n : Int} (hn : M 60 20 = n) (h1 : 0 ≤ n) (h2 : n < 31) (hl1 : -9223372036854775808 < l1) (hb : 1 ≤ b) (k : ∀ g : Int, g = (Int.gcd a b : Int) → 1 ≤ g → g ≤ b → post none (xa_up (xa_up (xa_up (xa_up M 74 n (a.tdiv g)) 60 20 (n + 1)) 74 (n + 1) (b.tdiv g)) 60 20 (n + 1 + 1))) : xa_C xm_I A h0 (d + 3) 230 [(2, 60, 0, 0, 0), (1, 0, l1, u1, a), (1, 0, l2, u2, b)] M post := by
  subst hn
  refine xa_C_arg [(2, 60, 0, 0, 0), (1, 0, (-9223372036854775807), 9223372036854775807, a), (1, 0, (-9223372036854775807), 9223372036854775807, b)] (xa_svR (xa_svL (fun _ _ _ _ => by omega) (xa_svL (fun _ _ _ _ => by omega) xa_sv0))) ?_
  refine xa_meth (Q0 := (7, 0, false, 0, 0, 12)) (by decide +kernel) ⟨rfl, rfl⟩ (full := s_c_230) rfl rfl ?_
  intro hM hv Q hgo
  refine hgo.1 19 [] 0 _ _ _ ?_
  show xa_C xm_I A h0 _ 229 [(1, 0, (-9223372036854775807), 9223372036854775807, a), (1, 0, (-9223372036854775807), 9223372036854775807, b)] M _
  refine ct_gcd1 (by decide) (by decide) (by omega) (fun g1 eg1 pg1 qg1 => ?_)
  show xa_C xm_I A h0 _ 231 [(2, 60, 0, 0, 0), (1, 0, (-9223372036854775808), 9223372036854775807, a.tdiv g1)] M _
  refine ct_tell (n := M 60 20) (by first | rfl | (simp [xa_up]; done) | omega) (by omega) (by omega) ?_
  show xa_C xm_I A h0 _ 231 [(2, 60, 0, 0, 0), (1, 0, (-9223372036854775808), 9223372036854775807, b.tdiv g1)] (xa_up (xa_up M 74 (M 60 20) (a.tdiv g1)) 60 20 ((M 60 20) + 1)) _
  refine ct_tell (n := (M 60 20) + 1) (by first | rfl | (simp [xa_up]; done) | omega) (by omega) (by omega) ?_
  show post none (xa_up (xa_up (xa_up (xa_up M 74 (M 60 20) (a.tdiv g1)) 60 20 ((M 60 20) + 1)) 74 ((M 60 20) + 1) (b.tdiv g1)) 60 20 (((M 60 20) + 1) + 1))
  exact k _ eg1 pg1 qg1
theorem ct_lead {A : Nat → Nat} {h0 : g_H} {d : Nat} {M : xa_M} {post : Option xa_V → xa_M → Prop} {l1 u1 l2 u2 l3 u3 a b c : Int} (hl1 : 0 ≤ l1) (hu1 : u1 ≤ 9) (hl2 : 0 ≤ l2) (hu2 : u2 ≤ 13) (hl3 : 0 ≤ l3) (hu3 : u3 ≤ 13) (h1 : 1 ≤ M 76 a) (h2 : 1 ≤ M 63 c) (k : ∀ u l : Int, (-400000000000000000 ≤ u ∧ u ≤ 400000000000000000) → (1 ≤ l ∧ l ≤ 400000000000000000) → xm_led M a b c u l → post none (xa_up (xa_up M 60 25 u) 60 26 l)) : xa_C xm_I A h0 (d + 3) 228 [(2, 60, 0, 0, 0), (0, 0, l1, u1, a), (0, 0, l2, u2, b), (0, 0, l3, u3, c)] M post := by
  refine xa_C_asm (fun hM hv => ?_)
  have va : l1 ≤ a ∧ a ≤ u1 := xa_v2 hv (show (0 : Nat) < 2 by decide)
  have vb : l2 ≤ b ∧ b ≤ u2 := hv _ (List.mem_cons_of_mem _ (List.mem_cons_of_mem _ List.mem_cons_self)) (show (0 : Nat) < 2 by decide)
  have vc : l3 ≤ c ∧ c ≤ u3 := hv _ (List.mem_cons_of_mem _ (List.mem_cons_of_mem _ (List.mem_cons_of_mem _ List.mem_cons_self))) (show (0 : Nat) < 2 by decide)
  refine xa_C_arg [(2, 60, 0, 0, 0), (0, 0, 0, 9, a), (0, 0, 0, 13, b), (0, 0, 0, 13, c)] (xa_svR (xa_svI (fun _ _ _ _ => by omega) (xa_svI (fun _ _ _ _ => by omega) (xa_svI (fun _ _ _ _ => by omega) xa_sv0)))) ?_
  have t75 := xm_t75 hM a (by omega) (by omega)
  have t76 := xm_t76 hM a (by omega) (by omega)
  have t63b := xm_t63 hM b (by omega) (by omega)
  have t63c := xm_t63 hM c (by omega) (by omega)
  have hx := xm_mulb (p := -(M 75 a)) (q := M 63 b) (by omega) (by omega) (by omega) (by omega)
  have hy2 := xm_mulb (p := M 76 a) (q := M 63 c) (by omega) (by omega) (by omega) (by omega)
  have hy : 1 ≤ M 76 a * M 63 c := by
    have := Int.mul_pos (show 0 < M 76 a by omega) (show 0 < M 63 c by omega)
    omega
  refine xa_meth (Q0 := (10, 0, false, 0, 0, 12)) (by decide +kernel) ⟨rfl, rfl⟩ (full := s_c_228) rfl rfl ?_
  intro hM hv Q hgo
  refine hgo.1 42 [] 0 _ _ _ ?_
  show xa_C xm_I A h0 _ 229 [(1, 0, (-400000000000000000), 400000000000000000, (-(M 75 a)) * (M 63 b)), (1, 0, 0, 400000000000000000, (M 76 a) * (M 63 c))] M _
  refine ct_gcd1 (by decide) (by decide) (by omega) (fun g1 eg1 pg1 qg1 => ?_)
  refine And.intro (show (-400000000000000000) ≤ (((-(M 75 a)) * (M 63 b)).tdiv g1) ∧ (((-(M 75 a)) * (M 63 b)).tdiv g1) ≤ 400000000000000000 by (exact xm_tdb (by omega) hx.1 hx.2)) ?_
  show post none (xa_up (xa_up M 60 25 (((-(M 75 a)) * (M 63 b)).tdiv g1)) 60 26 (((M 76 a) * (M 63 c)) / g1))
  have dl := xm_edb (g := g1) (y := M 76 a * M 63 c) (by omega) (by omega) hy2.2
  exact k _ _ (xm_tdb (by omega) hx.1 hx.2) dl ⟨_, eg1, rfl, rfl⟩
end
