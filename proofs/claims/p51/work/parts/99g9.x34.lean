-- near, off, on both sides
set_option maxRecDepth 20000
/-- the sign of a number -/
def tw_sg (x v : Int) : Prop := (x = 0 ∧ v = 0) ∨ (0 < x ∧ v = 1) ∨ (x < 0 ∧ v = 2)
theorem tw_sg1 {x v v' : Int} (h : tw_sg x v) (h' : tw_sg x v') : v = v' := by
  unfold tw_sg at h h'
  omega
/-- how far the axle gets ahead of the period -/
def tw_gp (N0 : xa_M) (a p : Int) (N : xa_M) : Int := ((N 75 a).natAbs : Int) * N0 71 p - N 76 a * N0 70 p
def tw_nT (N0 : xa_M) (a p c : Int) (N : xa_M) (v : Int) : Prop := (tw_L N a ∧ v = -5) ∨ (¬ tw_L N a ∧ tw_sg (tw_gp N0 a p N * c) v)
theorem tw_nT_one {N0 N N' : xa_M} {a p c v v' : Int} (e1 : N' 75 a = N 75 a) (e2 : N' 76 a = N 76 a) (h : tw_nT N0 a p c N v) (h' : tw_nT N0 a p c N' v') : v = v' := by
  unfold tw_nT tw_L tw_gp at h h'
  rw [e1, e2] at h'
  rcases h with ⟨a1, a2⟩ | ⟨a1, a2⟩
  · rcases h' with ⟨-, b2⟩ | ⟨b1, -⟩
    · omega
    · exact absurd a1 b1
  · rcases h' with ⟨b1, -⟩ | ⟨-, b2⟩
    · exact absurd b1 a1
    · exact tw_sg1 a2 b2
/-- the first year that is off: class, reference -/
def tw_oC (G P v : Int) : Prop := (G = 0 ∧ v = -6) ∨ (1 ≤ G ∧ ((2000 < P / G + 1 ∧ v = -6) ∨ (P / G + 1 ≤ 2000 ∧ v = P / G + 1)))
def tw_oR (G P v : Int) : Prop := (∃ y, 0 ≤ y ∧ y ≤ 2000 ∧ P < G * y ∧ (∀ z, 0 ≤ z → z < y → ¬ P < G * z) ∧ v = y) ∨ ((∀ z, 0 ≤ z → z ≤ 2000 → ¬ P < G * z) ∧ v = -6)
theorem tw_o_one {G P v v' : Int} (hP : 0 ≤ P) (h : tw_oC G P v) (h' : tw_oR G P v') : v = v' := by
  rcases h with ⟨rfl, e⟩ | ⟨g1, h⟩
  · rcases h' with ⟨y, -, -, h2, -⟩ | ⟨-, e'⟩
    · rw [Int.zero_mul] at h2
      omega
    · omega
  · have q0 : 0 ≤ P / G := Int.ediv_nonneg hP (by omega)
    have q1 : G * (P / G) ≤ P := Int.mul_ediv_self_le (by omega)
    have q2 : P < G * (P / G + 1) := by
      have := Int.lt_mul_ediv_self_add (x := P) (k := G) (by omega)
      rw [Int.mul_add, Int.mul_one]
      exact this
    generalize P / G = q at h q0 q1 q2
    rcases h' with ⟨y, y0, y1, y2, y3, e'⟩ | ⟨h1, e'⟩
    · have y4 : 1 ≤ y := by
        rcases Int.lt_or_le y 1 with c | c
        · exfalso
          rw [show y = 0 by omega, Int.mul_zero] at y2
          omega
        · exact c
      have y5 : q < y := Int.lt_of_mul_lt_mul_left (Int.lt_of_le_of_lt q1 y2) (by omega)
      have y6 : y - 1 < q + 1 := by
        have := y3 (y - 1) (by omega) (by omega)
        exact Int.lt_of_mul_lt_mul_left (Int.lt_of_le_of_lt (by omega) q2) (show 0 ≤ G by omega)
      omega
    · rcases h with ⟨h, e⟩ | ⟨h, e⟩
      · omega
      · exact absurd q2 (h1 (q + 1) (by omega) h)
def tw_oT (O : Int → Int → Int → Prop) (N0 : xa_M) (a p c : Int) (N : xa_M) (v : Int) : Prop := (tw_L N a ∧ v = -5) ∨ (¬ tw_L N a ∧ 1 ≤ N 76 a ∧ O (((tw_gp N0 a p N).natAbs : Int) * 360) (N 76 a * N0 71 p * c) v)
theorem tw_oT_one {N0 N N' : xa_M} {a p c v v' : Int} (hc : 0 ≤ c) (hp : 0 ≤ N0 71 p) (e1 : N' 75 a = N 75 a) (e2 : N' 76 a = N 76 a) (h : tw_oT tw_oC N0 a p c N v) (h' : tw_oT tw_oR N0 a p c N' v') : v = v' := by
  unfold tw_oT tw_L tw_gp at h h'
  rw [e1, e2] at h'
  rcases h with ⟨a1, a2⟩ | ⟨a1, a3, a2⟩
  · rcases h' with ⟨-, b2⟩ | ⟨b1, -⟩
    · omega
    · exact absurd a1 b1
  · rcases h' with ⟨b1, -⟩ | ⟨-, -, b2⟩
    · exact absurd b1 a1
    · exact tw_o_one (Int.mul_nonneg (Int.mul_nonneg (by omega) hp) hc) a2 b2
theorem tw_dv1 {X l c : Int} (hl : 1 ≤ l) (h : c < X / l) : c * l < X := by
  have a := Int.mul_ediv_self_le (x := X) (k := l) (by omega)
  have b := Int.mul_le_mul_of_nonneg_left (show c + 1 ≤ X / l by omega) (show 0 ≤ l by omega)
  rw [Int.mul_add, Int.mul_one, Int.mul_comm l c] at b
  omega
theorem tw_dv2 {X l c : Int} (h : X / l = c) (h2 : 0 < X % l) : c * l < X := by
  have a := Int.mul_ediv_add_emod X l
  rw [h, Int.mul_comm l c] at a
  omega
theorem tw_dn1 {X l c : Int} (hl : 1 ≤ l) (h : X / l ≤ c) (h2 : ¬ X / l = c) : ¬ c * l < X := by
  have a := Int.lt_mul_ediv_self_add (x := X) (k := l) (by omega)
  have b := Int.mul_le_mul_of_nonneg_left (show X / l + 1 ≤ c by omega) (show 0 ≤ l by omega)
  rw [Int.mul_add, Int.mul_one, Int.mul_comm l c] at b
  omega
theorem tw_dn2 {X l c : Int} (h : X / l = c) (h2 : X % l ≤ 0) : ¬ c * l < X := by
  have a := Int.mul_ediv_add_emod X l
  rw [h, Int.mul_comm l c] at a
  omega
theorem tw_Hn {N0 C1 : xa_M} {a v : Int} {T : xa_M → Int → Prop} (h : tu_H N0 a v C1) (hv : ¬ v = 0) (hT : ∀ N, tw_L N a → T N (-5)) : tw_A N0 a v T := by
  rcases h with ⟨-, h2⟩ | ⟨h1, ⟨h2, h3⟩ | ⟨-, h3⟩⟩
  · exact tw_A_of h2 (fun e => absurd e hv)
  · subst h3
    exact tw_A_to h1 (fun N _ _ _ h8 _ => hT N ((tw_Lc h8).mp h2))
  · exact absurd h3 hv
/-- within 64 bits -/
theorem tw_gap {U D u l : Int} (hU : (U.natAbs : Int) ≤ 1000000000) (hD : 1 ≤ D ∧ D ≤ 1000000000) (hu : 0 ≤ u ∧ u ≤ 2000) (hl : 0 ≤ l ∧ l ≤ 2000) : xa_w64 (xa_w64 ((U.natAbs : Int) * l) - xa_w64 (u * D)) = (U.natAbs : Int) * l - D * u ∧ (-2000000000000 ≤ (U.natAbs : Int) * l - D * u ∧ (U.natAbs : Int) * l - D * u ≤ 2000000000000) := by
  have p1 : 0 ≤ (U.natAbs : Int) * l ∧ (U.natAbs : Int) * l ≤ 2000000000000 := xa_mul_ok (p := 0) (q := 1000000000) (r := 0) (s := 2000) (by omega) hU hl.1 hl.2
  have p2 : 0 ≤ D * u ∧ D * u ≤ 2000000000000 := xa_mul_ok (p := 0) (q := 1000000000) (r := 0) (s := 2000) (by omega) hD.2 hu.1 hu.2
  rw [Int.mul_comm u D, xa_w64_id (n := (U.natAbs : Int) * l) (by omega) (by omega), xa_w64_id (n := D * u) (by omega) (by omega), xa_w64_id (by omega) (by omega)]
  exact ⟨rfl, by omega, by omega⟩
theorem tw_w3 {g y : Int} (hg : -2000000000000 ≤ g ∧ g ≤ 2000000000000) (hy : 0 ≤ y ∧ y ≤ 2000) : xa_w64 (g * y) = g * y ∧ (-4000000000000000 ≤ g * y ∧ g * y ≤ 4000000000000000) := by
  have p : -4000000000000000 ≤ g * y ∧ g * y ≤ 4000000000000000 := xa_mul_ok (p := -2000000000000) (q := 2000000000000) (r := 0) (s := 2000) hg.1 hg.2 hy.1 hy.2
  exact ⟨xa_w64_id (by omega) (by omega), by omega, by omega⟩
theorem tw_w4 {D l : Int} (hD : 1 ≤ D ∧ D ≤ 1000000000) (hl : 1 ≤ l ∧ l ≤ 2000) : xa_w64 (D * l) = D * l ∧ (1 ≤ D * l ∧ D * l ≤ 2000000000000) := by
  have p : 0 ≤ D * l ∧ D * l ≤ 2000000000000 := xa_mul_ok (p := 0) (q := 1000000000) (r := 0) (s := 2000) (by omega) hD.2 (by omega) hl.2
  have q := Int.mul_pos (show 0 < D by omega) (show 0 < l by omega)
  exact ⟨xa_w64_id (by omega) (by omega), by omega, by omega⟩
theorem tw_s6 {N : xa_M} {v w a : Int} {T : xa_M → Int → Prop} (hs : (v = w ∧ ¬ w = 0) ∨ (w = 0 ∧ N 77 a = 0 ∧ v = -2) ∨ (w = 0 ∧ N 77 a = 1 ∧ tw_fT a N v)) (hv : v < 0) (hT : tw_L N a → T N (-5)) : (¬ w = 0 ∧ v = w) ∨ (w = 0 ∧ N 77 a = 0 ∧ v = -2) ∨ (w = 0 ∧ N 77 a = 1 ∧ T N v) := by
  rcases hs with ⟨x, y⟩ | h | ⟨x, y, z⟩
  · exact Or.inl ⟨y, x⟩
  · exact Or.inr (Or.inl h)
  · refine Or.inr (Or.inr ⟨x, y, ?_⟩)
    rcases z with ⟨z1, rfl⟩ | ⟨-, e⟩
    · exact hT z1
    · omega
/-- the year, in words of 64 bits -/
theorem tw_yr {G P c : Int} (hP : 1 ≤ P ∧ P ≤ 2000000000000) (hc : 0 ≤ c ∧ c ≤ 360) (hG : 1 ≤ G) : xa_w64 ((xa_w64 (P * c)).tdiv G + 1) = P * c / G + 1 ∧ 0 ≤ P * c / G := by
  have p : 0 ≤ P * c ∧ P * c ≤ 720000000000000 := xa_mul_ok (p := 0) (q := 2000000000000) (r := 0) (s := 360) (by omega) hP.2 hc.1 hc.2
  have p0 := Int.mul_nonneg (show 0 ≤ P by omega) hc.1
  rw [xa_w64_id (n := P * c) (by omega) (by omega), Int.tdiv_eq_ediv_of_nonneg p0]
  have d0 := Int.ediv_nonneg p0 (show 0 ≤ G by omega)
  have d1 := Int.ediv_le_self G p0
  exact ⟨xa_w64_id (by omega) (by omega), d0⟩
theorem ct_findGapF {A : Nat → Nat} {h0 : g_H} {d : Nat} {M : xa_M} {post : Option xa_V → xa_M → Prop} {l1 u1 l2 u2 : Int} {a p : Int} (ha0 : 0 ≤ a) (ha1 : a ≤ 9) (hp0 : 0 ≤ p) (hp1 : p ≤ 7) (h1 : 1 ≤ M 76 a ∧ M 76 a ≤ 1000000000) (h2 : ((M 75 a).natAbs : Int) ≤ 1000000000) (h3 : 1 ≤ M 71 p) (k : ∀ u l : Int, u = ((M 75 a).natAbs : Int) * M 71 p - M 76 a * M 70 p → l = M 76 a * M 71 p → (-4000000000000 ≤ u ∧ u ≤ 4000000000000) → (1 ≤ l ∧ l ≤ 4000000000000) → post none (xa_up (xa_up M 60 50 u) 60 51 l)) : xa_C xm_I A h0 (d + 2) 276 [(2, 60, 0, 0, 0), (0, 0, l1, u1, a), (0, 0, l2, u2, p)] M post := by
  refine xa_C_arg [(2, 60, 0, 0, 0), (0, 0, 0, 9, a), (0, 0, 0, 7, p)] (xa_svR (xa_svI (fun _ _ _ _ => by omega) (xa_svI (fun _ _ _ _ => by omega) xa_sv0))) ?_
  refine xa_meth (Q0 := (3, 0, false, 0, 0, 12)) (by decide +kernel) ⟨rfl, rfl⟩ (full := s_c_276) rfl rfl ?_
  intro hM hv Q hgo
  have t75 := xm_t75 hM a ha0 (by omega)
  have t70 := xm_t70 hM p hp0 (by omega)
  have t71 := xm_t71 hM p hp0 (by omega)
  have m1 := xm_mulc (p := ((M 75 a).natAbs : Int)) (q := M 71 p) (by omega) (by omega) (by omega) (by omega)
  have m2 := xm_mulc (p := M 76 a) (q := M 70 p) (by omega) (by omega) (by omega) (by omega)
  have m3 := xm_mulc (p := M 76 a) (q := M 71 p) (by omega) (by omega) (by omega) (by omega)
  have m4 := Int.mul_pos (show 0 < M 76 a by omega) (show 0 < M 71 p by omega)
  refine hgo.1 41 [] 0 _ _ _ ?_
  show xa_C xm_I A h0 _ 56 [(1, 0, (-1000000000000000), 1000000000000000, M 75 a)] M _
  refine ct_absb 1000000000000000 (by decide) (by decide) (by decide) (fun a1 ea1 => ?_)
  refine And.intro (show (-4000000000000) ≤ ((a1 * (M 71 p)) - ((M 76 a) * (M 70 p))) ∧ ((a1 * (M 71 p)) - ((M 76 a) * (M 70 p))) ≤ 4000000000000 by (subst ea1; omega)) ?_
  refine And.intro (show 0 ≤ ((M 76 a) * (M 71 p)) ∧ ((M 76 a) * (M 71 p)) ≤ 4000000000000 by (subst ea1; omega)) ?_
  show post none (xa_up (xa_up M 60 50 ((a1 * (M 71 p)) - ((M 76 a) * (M 70 p)))) 60 51 ((M 76 a) * (M 71 p)))
  exact k _ _ (by rw [ea1]) rfl (by subst ea1; omega) (by omega)

theorem cx_165g_50 {A : Nat → Nat} {h0 : g_H} {d : Nat} {M : xa_M} {post : Option xa_V → xa_M → Prop} {l1 u1 l2 u2 x1 x2 : Int} {N0 : xa_M} (h1 : 0 ≤ x1 ∧ x1 < 10) (h2 : 0 ≤ x2 ∧ x2 < 8) (nL : ¬ tu_L M x1) (t6 : 1 ≤ M 14 x1) (e70 : M 51 x2 = N0 70 x2) (e71 : M 52 x2 = N0 71 x2) (b70 : 0 ≤ N0 70 x2 ∧ N0 70 x2 ≤ 2000) (b71 : 0 ≤ N0 71 x2 ∧ N0 71 x2 ≤ 2000) (k : ∀ g : Int, g = ((M 13 x1).natAbs : Int) * N0 71 x2 - M 14 x1 * N0 70 x2 → (-2000000000000 ≤ g ∧ g ≤ 2000000000000) → post (some (1, 0, -9223372036854775808, 9223372036854775807, g)) M) : xa_C (xl_I false) A h0 (d + 3) 165 [(2, 0, 0, 0, 0), (0, 0, l1, u1, x1), (0, 0, l2, u2, x2)] M post := by
  refine xa_C_wk ?_
  refine xa_C_arg [(2, 0, 0, 0, 0), (0, 0, (-2147483648), 2147483647, x1), (0, 0, (-2147483648), 2147483647, x2)] (xa_svR (xa_svI (fun _ _ _ _ => by omega) (xa_svI (fun _ _ _ _ => by omega) (xa_sv0)))) ?_
  refine xa_meth (Q0 := (3, 3, false, 0, 0, 11)) (by decide +kernel) ⟨rfl, rfl⟩ (full := s_c_165) rfl rfl ?_
  intro hM hv Q hgo
  have q := tw_gap (U := M 13 x1) (D := M 14 x1) (u := N0 70 x2) (l := N0 71 x2) (by unfold tu_L at nL; omega) (by unfold tu_L at nL; omega) b70 b71
  refine hgo.1 25 [] 0 _ _ _ ?_
  show xa_C (xl_I _) A h0 _ 54 [(2, 12, 0, 0, 0), (0, 0, (-2147483648), 2147483647, x1)] M _
  refine cx_54_12 (show 0 ≤ x1 ∧ x1 < 10 by omega) ?_
  show xa_C (xl_I _) A h0 _ 56 [(1, 0, (-9223372036854775808), 9223372036854775807, M 13 x1)] M _
  refine ct_abs (lo := 0) (hi := 1000000000000000) (show -9223372036854775808 < M 13 x1 by unfold tu_L at nL; omega) (fun a hA => ⟨by unfold tu_L at nL; omega, ?_⟩)
  show xa_C (xl_I _) A h0 _ 64 [(2, 50, 0, 0, 0), (0, 0, (-2147483648), 2147483647, x2)] M _
  refine cx_64_50 (show 0 ≤ x2 ∧ x2 < 8 by omega) ?_
  show xa_C (xl_I _) A h0 _ 65 [(2, 50, 0, 0, 0), (0, 0, (-2147483648), 2147483647, x2)] M _
  refine cx_65_50 (show 0 ≤ x2 ∧ x2 < 8 by omega) ?_
  show xa_C (xl_I _) A h0 _ 51 [(2, 12, 0, 0, 0), (0, 0, (-2147483648), 2147483647, x1)] M _
  refine cx_51_12 (show 0 ≤ x1 ∧ x1 < 10 by omega) ?_
  show xa_wk post (some (1, 0, (-9223372036854775808), 9223372036854775807, xa_w64 ((xa_w64 (a * (M 52 x2))) - (xa_w64 ((M 51 x2) * (M 14 x1)))))) M
  rw [hA, e70, e71]
  exact xa_wkL _ rfl (fun _ _ => by omega) (k _ q.1 (by rw [q.1]; exact q.2))
theorem cx_131 {b : Bool} {A : Nat → Nat} {h0 : g_H} {d : Nat} {M : xa_M} {post : Option xa_V → xa_M → Prop} {l0 u0 : Int} {x1 : Int} (k1 : (¬ x1 = 0) → (x1 ≤ 0) → post (some (0, 0, 2, 2, 2)) M) (k2 : (¬ x1 = 0) → (0 < x1) → post (some (0, 0, 1, 1, 1)) M) (k3 : (x1 = 0) → post (some (0, 0, 0, 0, 0)) M) : xa_C (xl_I b) A h0 (d + 1) 131 [(1, 0, l0, u0, x1)] M post := by
  refine xa_C_arg [(1, 0, (-9223372036854775808), 9223372036854775807, x1)] (xa_svL (fun _ _ _ _ => by omega) (xa_sv0)) ?_
  refine xa_meth (Q0 := (2, 1, false, 0, 0, 11)) (by decide +kernel) ⟨rfl, rfl⟩ (full := s_c_131) rfl rfl ?_
  intro hM hv Q hgo
  refine hgo.1 13 [] 0 _ _ _ ?_
  refine And.intro ?_ ?_
  · intro (c1 : ¬ x1 = 0)
    refine And.intro ?_ ?_
    · intro (c2 : x1 ≤ 0)
      show post (some (0, 0, 2, 2, 2)) M
      exact k1 c1 c2
    · intro (c2 : 0 < x1)
      show post (some (0, 0, 1, 1, 1)) M
      exact k2 c1 c2
  · intro (c1 : x1 = 0)
    show post (some (0, 0, 0, 0, 0)) M
    exact k3 c1
theorem cx_165g_55 {A : Nat → Nat} {h0 : g_H} {d : Nat} {M : xa_M} {post : Option xa_V → xa_M → Prop} {l1 u1 l2 u2 x1 x2 : Int} {N0 : xa_M} (h1 : 0 ≤ x1 ∧ x1 < 10) (h2 : 0 ≤ x2 ∧ x2 < 8) (nL : ¬ tu_L M x1) (t6 : 1 ≤ M 14 x1) (e70 : M 56 x2 = N0 70 x2) (e71 : M 57 x2 = N0 71 x2) (b70 : 0 ≤ N0 70 x2 ∧ N0 70 x2 ≤ 2000) (b71 : 0 ≤ N0 71 x2 ∧ N0 71 x2 ≤ 2000) (k : ∀ g : Int, g = ((M 13 x1).natAbs : Int) * N0 71 x2 - M 14 x1 * N0 70 x2 → (-2000000000000 ≤ g ∧ g ≤ 2000000000000) → post (some (1, 0, -9223372036854775808, 9223372036854775807, g)) M) : xa_C (xl_I true) A h0 (d + 3) 165 [(2, 0, 0, 0, 0), (0, 0, l1, u1, x1), (0, 0, l2, u2, x2)] M post := by
  refine xa_C_wk ?_
  refine xa_C_arg [(2, 0, 0, 0, 0), (0, 0, (-2147483648), 2147483647, x1), (0, 0, (-2147483648), 2147483647, x2)] (xa_svR (xa_svI (fun _ _ _ _ => by omega) (xa_svI (fun _ _ _ _ => by omega) (xa_sv0)))) ?_
  refine xa_meth (Q0 := (3, 3, false, 0, 0, 11)) (by decide +kernel) ⟨rfl, rfl⟩ (full := s_c_165) rfl rfl ?_
  intro hM hv Q hgo
  have q := tw_gap (U := M 13 x1) (D := M 14 x1) (u := N0 70 x2) (l := N0 71 x2) (by unfold tu_L at nL; omega) (by unfold tu_L at nL; omega) b70 b71
  refine hgo.1 25 [] 0 _ _ _ ?_
  show xa_C (xl_I _) A h0 _ 54 [(2, 12, 0, 0, 0), (0, 0, (-2147483648), 2147483647, x1)] M _
  refine cx_54_12 (show 0 ≤ x1 ∧ x1 < 10 by omega) ?_
  show xa_C (xl_I _) A h0 _ 56 [(1, 0, (-9223372036854775808), 9223372036854775807, M 13 x1)] M _
  refine ct_abs (lo := 0) (hi := 1000000000000000) (show -9223372036854775808 < M 13 x1 by unfold tu_L at nL; omega) (fun a hA => ⟨by unfold tu_L at nL; omega, ?_⟩)
  show xa_C (xl_I _) A h0 _ 64 [(2, 55, 0, 0, 0), (0, 0, (-2147483648), 2147483647, x2)] M _
  refine cx_64_55 (show 0 ≤ x2 ∧ x2 < 8 by omega) ?_
  show xa_C (xl_I _) A h0 _ 65 [(2, 55, 0, 0, 0), (0, 0, (-2147483648), 2147483647, x2)] M _
  refine cx_65_55 (show 0 ≤ x2 ∧ x2 < 8 by omega) ?_
  show xa_C (xl_I _) A h0 _ 51 [(2, 12, 0, 0, 0), (0, 0, (-2147483648), 2147483647, x1)] M _
  refine cx_51_12 (show 0 ≤ x1 ∧ x1 < 10 by omega) ?_
  show xa_wk post (some (1, 0, (-9223372036854775808), 9223372036854775807, xa_w64 ((xa_w64 (a * (M 57 x2))) - (xa_w64 ((M 56 x2) * (M 14 x1)))))) M
  rw [hA, e70, e71]
  exact xa_wkL _ rfl (fun _ _ => by omega) (k _ q.1 (by rw [q.1]; exact q.2))
