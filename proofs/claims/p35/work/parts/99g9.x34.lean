-- near, off, on both sides
set_option maxRecDepth 20000
/-- how far the axle gets ahead of the period -/
def tw_gp (N0 : xa_M) (a p : Int) (N : xa_M) : Int := ((N 75 a).natAbs : Int) * N0 71 p - N 76 a * N0 70 p
/-- the first year that is off: class, reference -/
def tw_oC (G P v : Int) : Prop := (G = 0 ∧ v = -6) ∨ (1 ≤ G ∧ ((2000 < P / G + 1 ∧ v = -6) ∨ (P / G + 1 ≤ 2000 ∧ v = P / G + 1)))
def tw_oR (G P v : Int) : Prop := (∃ y, 0 ≤ y ∧ y ≤ 2000 ∧ P < G * y ∧ (∀ z, 0 ≤ z → z < y → ¬ P < G * z) ∧ v = y) ∨ ((∀ z, 0 ≤ z → z ≤ 2000 → ¬ P < G * z) ∧ v = -6)
theorem tw_o_one {G P v v' : Int} (hP : 0 ≤ P) (h : tw_oC G P v) (h' : tw_oR G P v') : v = v' := by
  rcases h with ⟨rfl, e⟩ | ⟨g1, h⟩
  · rcases h' with ⟨y, -, -, h2, -⟩ | ⟨-, e'⟩
    · rw [Int.zero_mul] at h2
      omega
    · omega
  · have q0 : 0 ≤ P / G := Int.ediv_nonneg hP (by omega)
    have q1 : G * (P / G) ≤ P := Int.mul_ediv_self_le (by omega)
    have q2 : P < G * (P / G + 1) := by
      have := Int.lt_mul_ediv_self_add (x := P) (k := G) (by omega)
      rw [Int.mul_add, Int.mul_one]
      exact this
    generalize P / G = q at h q0 q1 q2
    rcases h' with ⟨y, y0, y1, y2, y3, e'⟩ | ⟨h1, e'⟩
    · have y4 : 1 ≤ y := by
        rcases Int.lt_or_le y 1 with c | c
        · exfalso
          rw [show y = 0 by omega, Int.mul_zero] at y2
          omega
        · exact c
      have y5 : q < y := Int.lt_of_mul_lt_mul_left (Int.lt_of_le_of_lt q1 y2) (by omega)
      have y6 : y - 1 < q + 1 := by
        have := y3 (y - 1) (by omega) (by omega)
        exact Int.lt_of_mul_lt_mul_left (Int.lt_of_le_of_lt (by omega) q2) (show 0 ≤ G by omega)
      omega
    · rcases h with ⟨h, e⟩ | ⟨h, e⟩
      · omega
      · exact absurd q2 (h1 (q + 1) (by omega) h)
def tw_oT (O : Int → Int → Int → Prop) (N0 : xa_M) (a p c : Int) (N : xa_M) (v : Int) : Prop := (tw_L N a ∧ v = -5) ∨ (¬ tw_L N a ∧ 1 ≤ N 76 a ∧ O (((tw_gp N0 a p N).natAbs : Int) * 360) (N 76 a * N0 71 p * c) v)
theorem tw_oT_one {N0 N N' : xa_M} {a p c v v' : Int} (hc : 0 ≤ c) (hp : 0 ≤ N0 71 p) (e1 : N' 75 a = N 75 a) (e2 : N' 76 a = N 76 a) (h : tw_oT tw_oC N0 a p c N v) (h' : tw_oT tw_oR N0 a p c N' v') : v = v' := by
  unfold tw_oT tw_L tw_gp at h h'
  rw [e1, e2] at h'
  rcases h with ⟨a1, a2⟩ | ⟨a1, a3, a2⟩
  · rcases h' with ⟨-, b2⟩ | ⟨b1, -⟩
    · omega
    · exact absurd a1 b1
  · rcases h' with ⟨b1, -⟩ | ⟨-, -, b2⟩
    · exact absurd b1 a1
    · exact tw_o_one (Int.mul_nonneg (Int.mul_nonneg (by omega) hp) hc) a2 b2
theorem tw_dv1 {X l c : Int} (hl : 1 ≤ l) (h : c < X / l) : c * l < X := by
  have a := Int.mul_ediv_self_le (x := X) (k := l) (by omega)
  have b := Int.mul_le_mul_of_nonneg_left (show c + 1 ≤ X / l by omega) (show 0 ≤ l by omega)
  rw [Int.mul_add, Int.mul_one, Int.mul_comm l c] at b
  omega
theorem tw_dv2 {X l c : Int} (h : X / l = c) (h2 : 0 < X % l) : c * l < X := by
  have a := Int.mul_ediv_add_emod X l
  rw [h, Int.mul_comm l c] at a
  omega
theorem tw_dn1 {X l c : Int} (hl : 1 ≤ l) (h : X / l ≤ c) (h2 : ¬ X / l = c) : ¬ c * l < X := by
  have a := Int.lt_mul_ediv_self_add (x := X) (k := l) (by omega)
  have b := Int.mul_le_mul_of_nonneg_left (show X / l + 1 ≤ c by omega) (show 0 ≤ l by omega)
  rw [Int.mul_add, Int.mul_one, Int.mul_comm l c] at b
  omega
theorem tw_dn2 {X l c : Int} (h : X / l = c) (h2 : X % l ≤ 0) : ¬ c * l < X := by
  have a := Int.mul_ediv_add_emod X l
  rw [h, Int.mul_comm l c] at a
  omega
theorem tw_Hn {N0 C1 : xa_M} {a v : Int} {T : xa_M → Int → Prop} (h : tu_H N0 a v C1) (hv : ¬ v = 0) (hT : ∀ N, tw_L N a → T N (-5)) : tw_A N0 a v T := by
  rcases h with ⟨-, h2⟩ | ⟨h1, ⟨h2, h3⟩ | ⟨-, h3⟩⟩
  · exact tw_A_of h2 (fun e => absurd e hv)
  · subst h3
    exact tw_A_to h1 (fun N _ _ _ h8 _ => hT N ((tw_Lc h8).mp h2))
  · exact absurd h3 hv
/-- within 64 bits -/
theorem tw_gap {U D u l : Int} (hU : (U.natAbs : Int) ≤ 1000000000) (hD : 1 ≤ D ∧ D ≤ 1000000000) (hu : 0 ≤ u ∧ u ≤ 2000) (hl : 0 ≤ l ∧ l ≤ 2000) : xa_w64 (xa_w64 ((U.natAbs : Int) * l) - xa_w64 (u * D)) = (U.natAbs : Int) * l - D * u ∧ (-2000000000000 ≤ (U.natAbs : Int) * l - D * u ∧ (U.natAbs : Int) * l - D * u ≤ 2000000000000) := by
  have p1 : 0 ≤ (U.natAbs : Int) * l ∧ (U.natAbs : Int) * l ≤ 2000000000000 := xa_mul_ok (p := 0) (q := 1000000000) (r := 0) (s := 2000) (by omega) hU hl.1 hl.2
  have p2 : 0 ≤ D * u ∧ D * u ≤ 2000000000000 := xa_mul_ok (p := 0) (q := 1000000000) (r := 0) (s := 2000) (by omega) hD.2 hu.1 hu.2
  rw [Int.mul_comm u D, xa_w64_id (n := (U.natAbs : Int) * l) (by omega) (by omega), xa_w64_id (n := D * u) (by omega) (by omega), xa_w64_id (by omega) (by omega)]
  exact ⟨rfl, by omega, by omega⟩
theorem tw_w3 {g y : Int} (hg : -2000000000000 ≤ g ∧ g ≤ 2000000000000) (hy : 0 ≤ y ∧ y ≤ 2000) : xa_w64 (g * y) = g * y ∧ (-4000000000000000 ≤ g * y ∧ g * y ≤ 4000000000000000) := by
  have p : -4000000000000000 ≤ g * y ∧ g * y ≤ 4000000000000000 := xa_mul_ok (p := -2000000000000) (q := 2000000000000) (r := 0) (s := 2000) hg.1 hg.2 hy.1 hy.2
  exact ⟨xa_w64_id (by omega) (by omega), by omega, by omega⟩
theorem tw_w4 {D l : Int} (hD : 1 ≤ D ∧ D ≤ 1000000000) (hl : 1 ≤ l ∧ l ≤ 2000) : xa_w64 (D * l) = D * l ∧ (1 ≤ D * l ∧ D * l ≤ 2000000000000) := by
  have p : 0 ≤ D * l ∧ D * l ≤ 2000000000000 := xa_mul_ok (p := 0) (q := 1000000000) (r := 0) (s := 2000) (by omega) hD.2 (by omega) hl.2
  have q := Int.mul_pos (show 0 < D by omega) (show 0 < l by omega)
  exact ⟨xa_w64_id (by omega) (by omega), by omega, by omega⟩
theorem tw_s6 {N : xa_M} {v w a : Int} {T : xa_M → Int → Prop} (hs : (v = w ∧ ¬ w = 0) ∨ (w = 0 ∧ N 77 a = 0 ∧ v = -2) ∨ (w = 0 ∧ N 77 a = 1 ∧ tw_fT a N v)) (hv : v < 0) (hT : tw_L N a → T N (-5)) : (¬ w = 0 ∧ v = w) ∨ (w = 0 ∧ N 77 a = 0 ∧ v = -2) ∨ (w = 0 ∧ N 77 a = 1 ∧ T N v) := by
  rcases hs with ⟨x, y⟩ | h | ⟨x, y, z⟩
  · exact Or.inl ⟨y, x⟩
  · exact Or.inr (Or.inl h)
  · refine Or.inr (Or.inr ⟨x, y, ?_⟩)
    rcases z with ⟨z1, rfl⟩ | ⟨-, e⟩
    · exact hT z1
    · omega
/-- the year, in words of 64 bits -/
theorem tw_yr {G P c : Int} (hP : 1 ≤ P ∧ P ≤ 2000000000000) (hc : 0 ≤ c ∧ c ≤ 360) (hG : 1 ≤ G) : xa_w64 ((xa_w64 (P * c)).tdiv G + 1) = P * c / G + 1 ∧ 0 ≤ P * c / G := by
  have p : 0 ≤ P * c ∧ P * c ≤ 720000000000000 := xa_mul_ok (p := 0) (q := 2000000000000) (r := 0) (s := 360) (by omega) hP.2 hc.1 hc.2
  have p0 := Int.mul_nonneg (show 0 ≤ P by omega) hc.1
  rw [xa_w64_id (n := P * c) (by omega) (by omega), Int.tdiv_eq_ediv_of_nonneg p0]
  have d0 := Int.ediv_nonneg p0 (show 0 ≤ G by omega)
  have d1 := Int.ediv_le_self G p0
  exact ⟨xa_w64_id (by omega) (by omega), d0⟩
theorem ct_findGapF {A : Nat → Nat} {h0 : g_H} {d : Nat} {M : xa_M} {post : Option xa_V → xa_M → Prop} {l1 u1 l2 u2 : Int} {a p : Int} (ha0 : 0 ≤ a) (ha1 : a ≤ 9) (hp0 : 0 ≤ p) (hp1 : p ≤ 7) (h1 : 1 ≤ M 76 a ∧ M 76 a ≤ 1000000000) (h2 : ((M 75 a).natAbs : Int) ≤ 1000000000) (h3 : 1 ≤ M 71 p) (k : ∀ u l : Int, u = ((M 75 a).natAbs : Int) * M 71 p - M 76 a * M 70 p → l = M 76 a * M 71 p → (-4000000000000 ≤ u ∧ u ≤ 4000000000000) → (1 ≤ l ∧ l ≤ 4000000000000) → post none (xa_up (xa_up M 60 50 u) 60 51 l)) : xa_C xm_I A h0 (d + 2) 276 [(2, 60, 0, 0, 0), (0, 0, l1, u1, a), (0, 0, l2, u2, p)] M post := by
  refine xa_C_arg [(2, 60, 0, 0, 0), (0, 0, 0, 9, a), (0, 0, 0, 7, p)] (xa_svR (xa_svI (fun _ _ _ _ => by omega) (xa_svI (fun _ _ _ _ => by omega) xa_sv0))) ?_
  refine xa_meth (Q0 := (3, 0, false, 0, 0, 12)) (by decide +kernel) ⟨rfl, rfl⟩ (full := s_c_276) rfl rfl ?_
  intro hM hv Q hgo
  have t75 := xm_t75 hM a ha0 (by omega)
  have t70 := xm_t70 hM p hp0 (by omega)
  have t71 := xm_t71 hM p hp0 (by omega)
  have m1 := xm_mulc (p := ((M 75 a).natAbs : Int)) (q := M 71 p) (by omega) (by omega) (by omega) (by omega)
  have m2 := xm_mulc (p := M 76 a) (q := M 70 p) (by omega) (by omega) (by omega) (by omega)
  have m3 := xm_mulc (p := M 76 a) (q := M 71 p) (by omega) (by omega) (by omega) (by omega)
  have m4 := Int.mul_pos (show 0 < M 76 a by omega) (show 0 < M 71 p by omega)
  refine hgo.1 41 [] 0 _ _ _ ?_
  show xa_C xm_I A h0 _ 56 [(1, 0, (-1000000000000000), 1000000000000000, M 75 a)] M _
  refine ct_absb 1000000000000000 (by decide) (by decide) (by decide) (fun a1 ea1 => ?_)
  refine And.intro (show (-4000000000000) ≤ ((a1 * (M 71 p)) - ((M 76 a) * (M 70 p))) ∧ ((a1 * (M 71 p)) - ((M 76 a) * (M 70 p))) ≤ 4000000000000 by (subst ea1; omega)) ?_
  refine And.intro (show 0 ≤ ((M 76 a) * (M 71 p)) ∧ ((M 76 a) * (M 71 p)) ≤ 4000000000000 by (subst ea1; omega)) ?_
  show post none (xa_up (xa_up M 60 50 ((a1 * (M 71 p)) - ((M 76 a) * (M 70 p)))) 60 51 ((M 76 a) * (M 71 p)))
  exact k _ _ (by rw [ea1]) rfl (by subst ea1; omega) (by omega)

theorem ms_offV {A : Nat → Nat} {h0 : g_H} {d : Nat} {M : xa_M} {post : Option xa_V → xa_M → Prop} {l1 u1 l2 u2 l3 u3 : Int} {a b c : Int} (hI : xm_Inv M) (k : ∀ (o : Option xa_V) (M1 : xa_M), (∃ lo hi n, o = some (0, 0, lo, hi, n) ∧ tw_P ((0 ≤ b ∧ b < M 60 11) ∧ (0 ≤ c ∧ c ≤ 360)) M a n (tw_oT tw_oR M a b c)) → xm_cor M M1 → post o M1) : xa_C xm_I A h0 (d + 7) 277 [(2, 60, 0, 0, 0), (0, 0, l1, u1, a), (0, 0, l2, u2, b), (0, 0, l3, u3, c)] M post := by
  refine xa_C_arg [(2, 60, 0, 0, 0), (0, 0, (-2147483648), 2147483647, a), (0, 0, (-2147483648), 2147483647, b), (0, 0, (-2147483648), 2147483647, c)] (xa_svR (xa_svI (fun _ _ _ _ => by omega) (xa_svI (fun _ _ _ _ => by omega) (xa_svI (fun _ _ _ _ => by omega) xa_sv0)))) ?_
  refine xa_meth (Q0 := (6, 1, false, 0, 0, 12)) (by decide +kernel) ⟨rfl, rfl⟩ (full := s_c_277) rfl rfl ?_
  intro hM hv Q hgo
  have b11 := xm_f11 hM
  have loop : ∀ (n : Nat) (y : Int) (M1 : xa_M), 0 ≤ y → y ≤ 2001 → xm_cor M M1 → 1 ≤ M1 60 51 → (∀ z, 0 ≤ z → z < y → ¬ c * M1 60 51 < ((M1 60 50).natAbs : Int) * 360 * z) → (∀ v, tw_oR (((M1 60 50).natAbs : Int) * 360) (c * M1 60 51) v → tw_P ((0 ≤ b ∧ b < M 60 11) ∧ (0 ≤ c ∧ c ≤ 360)) M a v (tw_oT tw_oR M a b c)) → 2001 - y < (n : Int) → Q 57 [(5, (0, 0, 0, 2001, y)), (3, (0, 0, 0, 360, c)), (0, (2, 60, 0, 0, 0))] [] M1 := by
    intro n
    induction n with
    | zero => intro y M1 h1 h2 hc hl hN hS hms; clear hN hS; omega
    | succ n ih =>
      intro y M1 h1 h2 hc hl hN hS hms
      refine hgo.1 51 [57] 57 _ _ _ ?_
      refine And.intro ?_ ?_
      · intro (c1 : 2000 < y)
        show post (some (0, 0, (-6), (-6), (-6))) M1
        exact k _ _ ⟨_, _, _, rfl, hS _ (Or.inr ⟨fun z z0 z1 => hN z z0 (by omega), rfl⟩)⟩ hc
      · intro (c1 : y ≤ 2000)
        show xa_C xm_I A h0 _ 56 [(1, 0, (-4000000000000), 4000000000000, M1 60 50)] M1 _
        refine ct_absb 4000000000000 (by decide) (by decide) (by decide) (fun a2 ea2 => ?_)
        refine And.intro (show 0 < (M1 60 51) by omega) ?_
        refine And.intro ?_ ?_
        · intro (c3 : c < (((a2 * y) * 360) / (M1 60 51)))
          show post (some (0, 0, 0, 2001, y)) M1
          exact k _ _ ⟨_, _, _, rfl, hS _ (Or.inl ⟨y, h1, by omega, tw_dv1 hl (by rw [← Int.mul_right_comm, ← ea2]; exact c3), hN, rfl⟩)⟩ hc
        · intro (c3 : (((a2 * y) * 360) / (M1 60 51)) ≤ c)
          show xa_C xm_I A h0 _ 56 [(1, 0, (-4000000000000), 4000000000000, M1 60 50)] M1 _
          refine ct_absb 4000000000000 (by decide) (by decide) (by decide) (fun a4 ea4 => ?_)
          refine And.intro (show 0 < (M1 60 51) by omega) ?_
          refine And.intro ?_ ?_
          · intro (c5 : ¬ (((a4 * y) * 360) / (M1 60 51)) = c)
            show Q 57 [(5, (0, 0, 1, 2002, y + 1)), (3, (0, 0, 0, 360, c)), (0, (2, 60, 0, 0, 0))] [] M1
            refine hgo.2.1 57 _ [(5, (0, 0, 0, 2001, y + 1)), (3, (0, 0, 0, 360, c)), (0, (2, 60, 0, 0, 0))] _ _ (xa_subI rfl rfl (fun _ _ _ _ => by omega) (xa_subI rfl rfl (fun _ _ _ _ => by omega) (xa_subR rfl xa_sub0))) ?_
            exact ih (y + 1) M1 (by omega) (by omega) hc hl (fun z z0 z1 => by
              by_cases e : z = y
              · rw [e]
                exact tw_dn1 hl (by rw [← Int.mul_right_comm, ← ea4]; rw [ea2, ← ea4] at c3; exact c3) (by rw [← Int.mul_right_comm, ← ea4]; exact c5)
              · exact hN z z0 (by omega)) hS (by omega)
          · intro (c5 : (((a4 * y) * 360) / (M1 60 51)) = c)
            show xa_C xm_I A h0 _ 56 [(1, 0, (-4000000000000), 4000000000000, M1 60 50)] M1 _
            refine ct_absb 4000000000000 (by decide) (by decide) (by decide) (fun a6 ea6 => ?_)
            refine And.intro (show 0 < (M1 60 51) by omega) ?_
            refine And.intro ?_ ?_
            · intro (c7 : (((a6 * y) * 360) % (M1 60 51)) ≤ 0)
              show Q 57 [(5, (0, 0, 1, 2002, y + 1)), (3, (0, 0, 0, 360, c)), (0, (2, 60, 0, 0, 0))] [] M1
              refine hgo.2.1 57 _ [(5, (0, 0, 0, 2001, y + 1)), (3, (0, 0, 0, 360, c)), (0, (2, 60, 0, 0, 0))] _ _ (xa_subI rfl rfl (fun _ _ _ _ => by omega) (xa_subI rfl rfl (fun _ _ _ _ => by omega) (xa_subR rfl xa_sub0))) ?_
              exact ih (y + 1) M1 (by omega) (by omega) hc hl (fun z z0 z1 => by
                by_cases e : z = y
                · rw [e]
                  exact tw_dn2 (by rw [← Int.mul_right_comm, ← ea4]; exact c5) (by rw [← Int.mul_right_comm, ← ea6]; exact c7)
                · exact hN z z0 (by omega)) hS (by omega)
            · intro (c7 : 0 < (((a6 * y) * 360) % (M1 60 51)))
              show post (some (0, 0, 0, 2001, y)) M1
              exact k _ _ ⟨_, _, _, rfl, hS _ (Or.inl ⟨y, h1, by omega, tw_dv2 (by rw [← Int.mul_right_comm, ← ea4]; exact c5) (by rw [← Int.mul_right_comm, ← ea6]; exact c7), hN, rfl⟩)⟩ hc
  refine hgo.1 21 [33] 0 _ _ _ ?_
  show xa_C xm_I A h0 _ 215 [(0, 0, (-2147483648), 2147483647, a)] (xa_up M 60 21 0) _
  refine ct_isAxle ?_ ?_
  · intro (i1 : 0 ≤ a ∧ a ≤ 9)
    show xa_C xm_I A h0 _ 239 [(2, 60, 0, 0, 0), (0, 0, (-2147483648), 2147483647, b)] (xa_up M 60 21 0) _
    refine ct_isPeriod ?_ ?_
    · intro (i2 : 0 ≤ b ∧ b < (M 60 11))
      show xa_C xm_I A h0 _ 214 [(0, 0, (-2147483648), 2147483647, c), (0, 0, 0, 0, 0), (0, 0, 360, 360, 360)] (xa_up M 60 21 0) _
      refine ct_in ?_ ?_
      · intro (i3 : 0 ≤ c ∧ c ≤ 360)
        show Q 33 [(0, (2, 60, 0, 0, 0)), (1, (0, 0, (-2147483648), 2147483647, a)), (2, (0, 0, (-2147483648), 2147483647, b)), (3, (0, 0, (-2147483648), 2147483647, c))] [] (xa_up M 60 21 0)
        refine hgo.2.1 33 _ [(0, (2, 60, 0, 0, 0)), (1, (0, 0, 0, 9, a)), (2, (0, 0, 0, 7, b)), (3, (0, 0, 0, 360, c))] _ _ (xa_subR rfl (xa_subI rfl rfl (fun _ _ _ _ => by omega) (xa_subI rfl rfl (fun _ _ _ _ => by omega) (xa_subI rfl rfl (fun _ _ _ _ => by omega) xa_sub0)))) ?_
        refine hgo.1 17 [57] 33 _ _ _ ?_
        show xa_C xm_I A h0 _ 273 [(2, 60, 0, 0, 0), (0, 0, 0, 9, a)] (xa_up M 60 21 0) _
        refine xa_C_mok (ct_fairStateF (xm_Inv_cor (xm_cor_f (by omega) xm_cor_r) hI) (by omega) (by omega) (fun v104 w104 M104 hc104 hT104 hF104 hw104 hv104 hs104 hM104 => ?_))
        refine And.intro ?_ ?_
        · intro (c105 : 0 ≤ v104)
          show xa_C xm_I A h0 _ 276 [(2, 60, 0, 0, 0), (0, 0, 0, 9, a), (0, 0, 0, 7, b)] M104 _
          refine ct_findGapF (by omega) (by omega) (by omega) (by omega) (by omega) (by omega) (by rw [xm_corq (xm_cor_t (xm_cor_f (by omega) xm_cor_r) hc104) 71 rfl]; exact (hI.2.2.1 _ (by omega) (by omega)).2) (fun u106 l106 eu106 el106 bu106 bl106 => ?_)
          have hc4 := xm_cor_t (xm_cor_f (M := M) (j := 21) (v := 0) (by omega) xm_cor_r) hc104
          have hf4 := tw_s5 hs104 (by omega) (by omega)
          have eg4 : u106 = tw_gp M a b M104 := by
            unfold tw_gp
            rw [eu106, xm_corq hc4 71 rfl b, xm_corq hc4 70 rfl b]
          have el4 : l106 = M104 76 a * M 71 b := by
            rw [el106, xm_corq hc4 71 rfl b]
          show Q 57 [(5, (0, 0, 0, 0, 0)), (4, (0, 0, (-5), 0, v104)), (0, (2, 60, 0, 0, 0)), (1, (0, 0, 0, 9, a)), (2, (0, 0, 0, 7, b)), (3, (0, 0, 0, 360, c))] [] (xa_up (xa_up M104 60 50 u106) 60 51 l106)
          refine hgo.2.1 57 _ [(5, (0, 0, 0, 2001, 0)), (3, (0, 0, 0, 360, c)), (0, (2, 60, 0, 0, 0))] _ _ (xa_subI rfl rfl (fun _ _ _ _ => by omega) (xa_subI rfl rfl (fun _ _ _ _ => by omega) (xa_subR rfl xa_sub0))) ?_
          have n6 := (hv104 c105).2.2.1
          have e50 : (xa_up (xa_up M104 60 50 u106) 60 51 l106) 60 50 = u106 := (xa_up_ne (by omega)).trans xa_up_eq
          have e51 : (xa_up (xa_up M104 60 50 u106) 60 51 l106) 60 51 = l106 := xa_up_eq
          exact loop 2002 0 (xa_up (xa_up M104 60 50 u106) 60 51 l106) (by omega) (by omega) (xm_cor_f (by omega) (xm_cor_f (by omega) (xm_cor_t (xm_cor_f (by omega) xm_cor_r) hc104))) (by rw [e51]; omega) (fun z z0 z1 => by omega) (fun v h => by
            rw [e50, e51, eg4, el4, Int.mul_comm c] at h
            exact Or.inr ⟨⟨i2, i3⟩, Or.inr ⟨i1, w104, M104, ⟨_, xm_cor_f (by omega) xm_cor_r, hF104⟩, Or.inr (Or.inr ⟨by omega, by omega, Or.inr ⟨tw_f0 hf4 c105, n6, h⟩⟩)⟩⟩) (by omega)
        · intro (c105 : v104 < 0)
          show post (some (0, 0, (-5), 0, v104)) M104
          exact k _ _ ⟨_, _, _, rfl, Or.inr ⟨⟨i2, i3⟩, Or.inr ⟨i1, w104, M104, ⟨_, xm_cor_f (by omega) xm_cor_r, hF104⟩, tw_s6 hs104 c105 (fun h => Or.inl ⟨h, rfl⟩)⟩⟩⟩ (xm_cor_t (xm_cor_f (by omega) xm_cor_r) hc104)
      · intro (i3 : ¬ (0 ≤ c ∧ c ≤ 360))
        show post (some (0, 0, (-1), (-1), (-1))) (xa_up M 60 21 0)
        exact k _ _ ⟨_, _, _, rfl, Or.inl ⟨fun h => i3 h.2, rfl⟩⟩ (xm_cor_f (by omega) xm_cor_r)
    · intro (i2 : ¬ (0 ≤ b ∧ b < (M 60 11)))
      show post (some (0, 0, (-1), (-1), (-1))) (xa_up M 60 21 0)
      exact k _ _ ⟨_, _, _, rfl, Or.inl ⟨fun h => i2 h.1, rfl⟩⟩ (xm_cor_f (by omega) xm_cor_r)
  · intro (i1 : ¬ (0 ≤ a ∧ a ≤ 9))
    show post (some (0, 0, (-1), (-1), (-1))) (xa_up M 60 21 0)
    exact k _ _ ⟨_, _, _, rfl, tw_Pn i1⟩ (xm_cor_f (by omega) xm_cor_r)

theorem cx_165g_50 {A : Nat → Nat} {h0 : g_H} {d : Nat} {M : xa_M} {post : Option xa_V → xa_M → Prop} {l1 u1 l2 u2 x1 x2 : Int} {N0 : xa_M} (h1 : 0 ≤ x1 ∧ x1 < 10) (h2 : 0 ≤ x2 ∧ x2 < 8) (nL : ¬ tu_L M x1) (t6 : 1 ≤ M 14 x1) (e70 : M 51 x2 = N0 70 x2) (e71 : M 52 x2 = N0 71 x2) (b70 : 0 ≤ N0 70 x2 ∧ N0 70 x2 ≤ 2000) (b71 : 0 ≤ N0 71 x2 ∧ N0 71 x2 ≤ 2000) (k : ∀ g : Int, g = ((M 13 x1).natAbs : Int) * N0 71 x2 - M 14 x1 * N0 70 x2 → (-2000000000000 ≤ g ∧ g ≤ 2000000000000) → post (some (1, 0, -9223372036854775808, 9223372036854775807, g)) M) : xa_C (xl_I false) A h0 (d + 3) 165 [(2, 0, 0, 0, 0), (0, 0, l1, u1, x1), (0, 0, l2, u2, x2)] M post := by
  refine xa_C_wk ?_
  refine xa_C_arg [(2, 0, 0, 0, 0), (0, 0, (-2147483648), 2147483647, x1), (0, 0, (-2147483648), 2147483647, x2)] (xa_svR (xa_svI (fun _ _ _ _ => by omega) (xa_svI (fun _ _ _ _ => by omega) (xa_sv0)))) ?_
  refine xa_meth (Q0 := (3, 3, false, 0, 0, 11)) (by decide +kernel) ⟨rfl, rfl⟩ (full := s_c_165) rfl rfl ?_
  intro hM hv Q hgo
  have q := tw_gap (U := M 13 x1) (D := M 14 x1) (u := N0 70 x2) (l := N0 71 x2) (by unfold tu_L at nL; omega) (by unfold tu_L at nL; omega) b70 b71
  refine hgo.1 25 [] 0 _ _ _ ?_
  show xa_C (xl_I _) A h0 _ 54 [(2, 12, 0, 0, 0), (0, 0, (-2147483648), 2147483647, x1)] M _
  refine cx_54_12 (show 0 ≤ x1 ∧ x1 < 10 by omega) ?_
  show xa_C (xl_I _) A h0 _ 56 [(1, 0, (-9223372036854775808), 9223372036854775807, M 13 x1)] M _
  refine ct_abs (lo := 0) (hi := 1000000000000000) (show -9223372036854775808 < M 13 x1 by unfold tu_L at nL; omega) (fun a hA => ⟨by unfold tu_L at nL; omega, ?_⟩)
  show xa_C (xl_I _) A h0 _ 64 [(2, 50, 0, 0, 0), (0, 0, (-2147483648), 2147483647, x2)] M _
  refine cx_64_50 (show 0 ≤ x2 ∧ x2 < 8 by omega) ?_
  show xa_C (xl_I _) A h0 _ 65 [(2, 50, 0, 0, 0), (0, 0, (-2147483648), 2147483647, x2)] M _
  refine cx_65_50 (show 0 ≤ x2 ∧ x2 < 8 by omega) ?_
  show xa_C (xl_I _) A h0 _ 51 [(2, 12, 0, 0, 0), (0, 0, (-2147483648), 2147483647, x1)] M _
  refine cx_51_12 (show 0 ≤ x1 ∧ x1 < 10 by omega) ?_
  show xa_wk post (some (1, 0, (-9223372036854775808), 9223372036854775807, xa_w64 ((xa_w64 (a * (M 52 x2))) - (xa_w64 ((M 51 x2) * (M 14 x1)))))) M
  rw [hA, e70, e71]
  exact xa_wkL _ rfl (fun _ _ => by omega) (k _ q.1 (by rw [q.1]; exact q.2))
theorem cx_166v_50 {A : Nat → Nat} {h0 : g_H} {d : Nat} {M : xa_M} {post : Option xa_V → xa_M → Prop} {l1 u1 l2 u2 l3 u3 x1 x2 x3 : Int} {N0 : xa_M} (hM0 : tu_M N0) (hC0 : tu_C M N0) (hB : tk_B 50 M N0) (k : ∀ (lo hi v : Int) (M1 : xa_M), tw_P ((0 ≤ x2 ∧ x2 < N0 60 11) ∧ (0 ≤ x3 ∧ x3 ≤ 360)) N0 x1 v (tw_oT tw_oC N0 x1 x2 x3) → (∀ (q : Nat) (j : Int), ¬ (12 ≤ q ∧ q ≤ 14) → ¬ (q = 48 ∨ q = 49) → M1 q j = M q j) → post (some (0, 0, lo, hi, v)) M1) : xa_C (xl_I false) A h0 (d + 9) 166 [(2, 0, 0, 0, 0), (0, 0, l1, u1, x1), (0, 0, l2, u2, x2), (0, 0, l3, u3, x3)] M post := by
  refine xa_C_arg [(2, 0, 0, 0, 0), (0, 0, (-2147483648), 2147483647, x1), (0, 0, (-2147483648), 2147483647, x2), (0, 0, (-2147483648), 2147483647, x3)] (xa_svR (xa_svI (fun _ _ _ _ => by omega) (xa_svI (fun _ _ _ _ => by omega) (xa_svI (fun _ _ _ _ => by omega) (xa_sv0))))) ?_
  refine xa_meth (Q0 := (9, 1, false, 0, 0, 11)) (by decide +kernel) ⟨rfl, rfl⟩ (full := s_c_166) rfl rfl ?_
  intro hM hv Q hgo
  refine hgo.1 54 [] 0 _ _ _ ?_
  show xa_C (xl_I _) A h0 _ 87 [(2, 50, 0, 0, 0), (0, 0, (-2147483648), 2147483647, x2)] M _
  refine cx_87_50 ?_ ?_ ?_
  · intro (i1 : x2 < 0)
    show post (some (0, 0, (-1), (-1), (-1))) M
    exact k _ _ _ _ (Or.inl ⟨by have e := hB.1; omega, rfl⟩) (fun _ _ _ _ => rfl)
  · intro (i2 : 0 ≤ x2) (i3 : (M 50 4) ≤ x2)
    show post (some (0, 0, (-1), (-1), (-1))) M
    exact k _ _ _ _ (Or.inl ⟨by have e := hB.1; omega, rfl⟩) (fun _ _ _ _ => rfl)
  · intro (i4 : 0 ≤ x2) (i5 : x2 < (M 50 4))
    refine And.intro ?_ ?_
    · intro (c6 : x3 < 0)
      show post (some (0, 0, (-1), (-1), (-1))) M
      exact k _ _ _ _ (Or.inl ⟨by have e := hB.1; omega, rfl⟩) (fun _ _ _ _ => rfl)
    · intro (c6 : 0 ≤ x3)
      refine And.intro ?_ ?_
      · intro (c7 : x3 ≤ 360)
        show xa_C (xl_I _) A h0 _ 68 [(2, 0, 0, 0, 0), (0, 0, (-2147483648), 2147483647, x1)] M _
        refine cx_68t hM0 hC0 ?_
        intro v101 M102 (i8 : tu_H N0 x1 v101 M102) (i9 : tu_G M M102)
        refine And.intro ?_ ?_
        · intro (c10 : v101 = 0)
          have nB4 := hB.1
          rw [c10] at i8
          obtain ⟨hs0, nL⟩ := tu_H0 i8
          obtain ⟨ax, N9, t1, t2, t3, t4, t5, t6, t7⟩ := tu_S0 hs0
          obtain ⟨⟨f1, f2⟩, f3, f4⟩ := hB.2.2 x2 (by omega) (by omega)
          have n11 := hB.2.1
          have e70 : M102 51 x2 = N0 70 x2 := (i9 51 x2 (by omega)).trans f1
          have e71 : M102 52 x2 = N0 71 x2 := (i9 52 x2 (by omega)).trans f2
          have nL2 : M102 14 x1 ≤ 1000000000 := by
            unfold tu_L at nL
            omega
          have w4 := tw_w4 (D := M102 14 x1) (l := M102 52 x2) (by omega) (by rw [e71]; exact f4)
          show xa_C (xl_I _) A h0 _ 165 [(2, 0, 0, 0, 0), (0, 0, (-2147483648), 2147483647, x1), (0, 0, (-2147483648), 2147483647, x2)] M102 _
          refine cx_165g_50 (by omega) (by omega) nL t6.1 e70 e71 (by omega) (by omega) ?_
          intro g103 (i11 : g103 = ((M102 13 x1).natAbs : Int) * N0 71 x2 - M102 14 x1 * N0 70 x2) (i12 : -2000000000000 ≤ g103 ∧ g103 ≤ 2000000000000)
          have w3 := tw_w3 i12 (show 0 ≤ x3 ∧ x3 ≤ 2000 by omega)
          show xa_C (xl_I _) A h0 _ 56 [(1, 0, (-9223372036854775808), 9223372036854775807, g103)] M102 _
          refine ct_abs (lo := 0) (hi := 2000000000000) (show -9223372036854775808 < g103 by omega) (fun a104 h105 => ⟨by omega, ?_⟩)
          refine And.intro ?_ ?_
          · intro (c13 : ¬ (a104 * 360) = 0)
            show xa_C (xl_I _) A h0 _ 51 [(2, 12, 0, 0, 0), (0, 0, (-2147483648), 2147483647, x1)] M102 _
            refine cx_51_12 (show 0 ≤ x1 ∧ x1 < 10 by omega) ?_
            show xa_C (xl_I _) A h0 _ 64 [(2, 50, 0, 0, 0), (0, 0, (-2147483648), 2147483647, x2)] M102 _
            refine cx_64_50 (show 0 ≤ x2 ∧ x2 < 8 by omega) ?_
            show xa_C (xl_I _) A h0 _ 21 [(1, 0, (-9223372036854775808), 9223372036854775807, xa_w64 ((xa_w64 ((M102 14 x1) * (M102 52 x2))) * x3)), (1, 0, 0, 720000000000000, a104 * 360)] M102 _
            refine cx_21t rfl (show 1 ≤ (a104 * 360) ∧ (a104 * 360) ≤ 9223372036854775807 by omega) ?_
            refine And.intro ?_ ?_
            · intro (c14 : (xa_w64 (((xa_w64 ((xa_w64 ((M102 14 x1) * (M102 52 x2))) * x3)).tdiv (a104 * 360)) + 1)) ≤ 2000)
              show post (some (0, 0, (-2147483648), 2147483647, xa_w32 (xa_w64 (((xa_w64 ((xa_w64 ((M102 14 x1) * (M102 52 x2))) * x3)).tdiv (a104 * 360)) + 1)))) M102
              refine k _ _ _ _ (Or.inr ⟨⟨by have e := hB.1; omega, by omega⟩, tw_A_to hs0 (fun N _ _ _ h8 _ => Or.inr ⟨fun e => nL ((tw_Lc h8).mpr e), by rw [← h8.2]; exact t6.1, ?_⟩)⟩) (fun q j h1 h2 => i9 q j h1)
              have ge : tw_gp N0 x1 x2 N = g103 := by
                unfold tw_gp
                rw [i11, h8.1, h8.2]
              rw [ge, ← h105, ← h8.2, ← e71]
              obtain ⟨y1, y2⟩ := tw_yr (G := a104 * 360) (P := M102 14 x1 * M102 52 x2) (c := x3) w4.2 (by omega) (by omega)
              rw [w4.1, y1] at c14
              rw [w4.1, y1, xa_w32_id (by omega) (by omega)]
              exact Or.inr ⟨by omega, Or.inr ⟨c14, rfl⟩⟩
            · intro (c14 : 2000 < (xa_w64 (((xa_w64 ((xa_w64 ((M102 14 x1) * (M102 52 x2))) * x3)).tdiv (a104 * 360)) + 1)))
              show post (some (0, 0, (-6), (-6), (-6))) M102
              refine k _ _ _ _ (Or.inr ⟨⟨by have e := hB.1; omega, by omega⟩, tw_A_to hs0 (fun N _ _ _ h8 _ => Or.inr ⟨fun e => nL ((tw_Lc h8).mpr e), by rw [← h8.2]; exact t6.1, ?_⟩)⟩) (fun q j h1 h2 => i9 q j h1)
              have ge : tw_gp N0 x1 x2 N = g103 := by
                unfold tw_gp
                rw [i11, h8.1, h8.2]
              rw [ge, ← h105, ← h8.2, ← e71]
              obtain ⟨y1, y2⟩ := tw_yr (G := a104 * 360) (P := M102 14 x1 * M102 52 x2) (c := x3) w4.2 (by omega) (by omega)
              rw [w4.1, y1] at c14
              exact Or.inr ⟨by omega, Or.inl ⟨c14, rfl⟩⟩
          · intro (c13 : (a104 * 360) = 0)
            show post (some (0, 0, (-6), (-6), (-6))) M102
            refine k _ _ _ _ (Or.inr ⟨⟨by have e := hB.1; omega, by omega⟩, tw_A_to hs0 (fun N _ _ _ h8 _ => Or.inr ⟨fun e => nL ((tw_Lc h8).mpr e), by rw [← h8.2]; exact t6.1, ?_⟩)⟩) (fun q j h1 h2 => i9 q j h1)
            have ge : tw_gp N0 x1 x2 N = g103 := by
              unfold tw_gp
              rw [i11, h8.1, h8.2]
            rw [ge, ← h105, ← h8.2, ← e71]
            exact Or.inl ⟨by omega, rfl⟩
        · intro (c10 : ¬ v101 = 0)
          show post (some (0, 0, (-5), 0, v101)) M102
          exact k _ _ _ _ (Or.inr ⟨⟨by have e := hB.1; omega, by omega⟩, tw_Hn i8 (by omega) (fun N h => Or.inl ⟨h, rfl⟩)⟩) (fun q j h1 h2 => i9 q j h1)
      · intro (c7 : 360 < x3)
        show post (some (0, 0, (-1), (-1), (-1))) M
        exact k _ _ _ _ (Or.inl ⟨by have e := hB.1; omega, rfl⟩) (fun _ _ _ _ => rfl)
theorem cx_165g_55 {A : Nat → Nat} {h0 : g_H} {d : Nat} {M : xa_M} {post : Option xa_V → xa_M → Prop} {l1 u1 l2 u2 x1 x2 : Int} {N0 : xa_M} (h1 : 0 ≤ x1 ∧ x1 < 10) (h2 : 0 ≤ x2 ∧ x2 < 8) (nL : ¬ tu_L M x1) (t6 : 1 ≤ M 14 x1) (e70 : M 56 x2 = N0 70 x2) (e71 : M 57 x2 = N0 71 x2) (b70 : 0 ≤ N0 70 x2 ∧ N0 70 x2 ≤ 2000) (b71 : 0 ≤ N0 71 x2 ∧ N0 71 x2 ≤ 2000) (k : ∀ g : Int, g = ((M 13 x1).natAbs : Int) * N0 71 x2 - M 14 x1 * N0 70 x2 → (-2000000000000 ≤ g ∧ g ≤ 2000000000000) → post (some (1, 0, -9223372036854775808, 9223372036854775807, g)) M) : xa_C (xl_I true) A h0 (d + 3) 165 [(2, 0, 0, 0, 0), (0, 0, l1, u1, x1), (0, 0, l2, u2, x2)] M post := by
  refine xa_C_wk ?_
  refine xa_C_arg [(2, 0, 0, 0, 0), (0, 0, (-2147483648), 2147483647, x1), (0, 0, (-2147483648), 2147483647, x2)] (xa_svR (xa_svI (fun _ _ _ _ => by omega) (xa_svI (fun _ _ _ _ => by omega) (xa_sv0)))) ?_
  refine xa_meth (Q0 := (3, 3, false, 0, 0, 11)) (by decide +kernel) ⟨rfl, rfl⟩ (full := s_c_165) rfl rfl ?_
  intro hM hv Q hgo
  have q := tw_gap (U := M 13 x1) (D := M 14 x1) (u := N0 70 x2) (l := N0 71 x2) (by unfold tu_L at nL; omega) (by unfold tu_L at nL; omega) b70 b71
  refine hgo.1 25 [] 0 _ _ _ ?_
  show xa_C (xl_I _) A h0 _ 54 [(2, 12, 0, 0, 0), (0, 0, (-2147483648), 2147483647, x1)] M _
  refine cx_54_12 (show 0 ≤ x1 ∧ x1 < 10 by omega) ?_
  show xa_C (xl_I _) A h0 _ 56 [(1, 0, (-9223372036854775808), 9223372036854775807, M 13 x1)] M _
  refine ct_abs (lo := 0) (hi := 1000000000000000) (show -9223372036854775808 < M 13 x1 by unfold tu_L at nL; omega) (fun a hA => ⟨by unfold tu_L at nL; omega, ?_⟩)
  show xa_C (xl_I _) A h0 _ 64 [(2, 55, 0, 0, 0), (0, 0, (-2147483648), 2147483647, x2)] M _
  refine cx_64_55 (show 0 ≤ x2 ∧ x2 < 8 by omega) ?_
  show xa_C (xl_I _) A h0 _ 65 [(2, 55, 0, 0, 0), (0, 0, (-2147483648), 2147483647, x2)] M _
  refine cx_65_55 (show 0 ≤ x2 ∧ x2 < 8 by omega) ?_
  show xa_C (xl_I _) A h0 _ 51 [(2, 12, 0, 0, 0), (0, 0, (-2147483648), 2147483647, x1)] M _
  refine cx_51_12 (show 0 ≤ x1 ∧ x1 < 10 by omega) ?_
  show xa_wk post (some (1, 0, (-9223372036854775808), 9223372036854775807, xa_w64 ((xa_w64 (a * (M 57 x2))) - (xa_w64 ((M 56 x2) * (M 14 x1)))))) M
  rw [hA, e70, e71]
  exact xa_wkL _ rfl (fun _ _ => by omega) (k _ q.1 (by rw [q.1]; exact q.2))
theorem cx_166v_55 {A : Nat → Nat} {h0 : g_H} {d : Nat} {M : xa_M} {post : Option xa_V → xa_M → Prop} {l1 u1 l2 u2 l3 u3 x1 x2 x3 : Int} {N0 : xa_M} (hM0 : tu_M N0) (hC0 : tu_C M N0) (hB : tk_B 55 M N0) (k : ∀ (lo hi v : Int) (M1 : xa_M), tw_P ((0 ≤ x2 ∧ x2 < N0 60 11) ∧ (0 ≤ x3 ∧ x3 ≤ 360)) N0 x1 v (tw_oT tw_oC N0 x1 x2 x3) → (∀ (q : Nat) (j : Int), ¬ (12 ≤ q ∧ q ≤ 14) → ¬ (q = 48 ∨ q = 49) → M1 q j = M q j) → post (some (0, 0, lo, hi, v)) M1) : xa_C (xl_I true) A h0 (d + 9) 166 [(2, 0, 0, 0, 0), (0, 0, l1, u1, x1), (0, 0, l2, u2, x2), (0, 0, l3, u3, x3)] M post := by
  refine xa_C_arg [(2, 0, 0, 0, 0), (0, 0, (-2147483648), 2147483647, x1), (0, 0, (-2147483648), 2147483647, x2), (0, 0, (-2147483648), 2147483647, x3)] (xa_svR (xa_svI (fun _ _ _ _ => by omega) (xa_svI (fun _ _ _ _ => by omega) (xa_svI (fun _ _ _ _ => by omega) (xa_sv0))))) ?_
  refine xa_meth (Q0 := (9, 1, false, 0, 0, 11)) (by decide +kernel) ⟨rfl, rfl⟩ (full := s_c_166) rfl rfl ?_
  intro hM hv Q hgo
  refine hgo.1 54 [] 0 _ _ _ ?_
  show xa_C (xl_I _) A h0 _ 87 [(2, 55, 0, 0, 0), (0, 0, (-2147483648), 2147483647, x2)] M _
  refine cx_87_55 ?_ ?_ ?_
  · intro (i1 : x2 < 0)
    show post (some (0, 0, (-1), (-1), (-1))) M
    exact k _ _ _ _ (Or.inl ⟨by have e := hB.1; omega, rfl⟩) (fun _ _ _ _ => rfl)
  · intro (i2 : 0 ≤ x2) (i3 : (M 55 4) ≤ x2)
    show post (some (0, 0, (-1), (-1), (-1))) M
    exact k _ _ _ _ (Or.inl ⟨by have e := hB.1; omega, rfl⟩) (fun _ _ _ _ => rfl)
  · intro (i4 : 0 ≤ x2) (i5 : x2 < (M 55 4))
    refine And.intro ?_ ?_
    · intro (c6 : x3 < 0)
      show post (some (0, 0, (-1), (-1), (-1))) M
      exact k _ _ _ _ (Or.inl ⟨by have e := hB.1; omega, rfl⟩) (fun _ _ _ _ => rfl)
    · intro (c6 : 0 ≤ x3)
      refine And.intro ?_ ?_
      · intro (c7 : x3 ≤ 360)
        show xa_C (xl_I _) A h0 _ 68 [(2, 0, 0, 0, 0), (0, 0, (-2147483648), 2147483647, x1)] M _
        refine cx_68t hM0 hC0 ?_
        intro v101 M102 (i8 : tu_H N0 x1 v101 M102) (i9 : tu_G M M102)
        refine And.intro ?_ ?_
        · intro (c10 : v101 = 0)
          have nB4 := hB.1
          rw [c10] at i8
          obtain ⟨hs0, nL⟩ := tu_H0 i8
          obtain ⟨ax, N9, t1, t2, t3, t4, t5, t6, t7⟩ := tu_S0 hs0
          obtain ⟨⟨f1, f2⟩, f3, f4⟩ := hB.2.2 x2 (by omega) (by omega)
          have n11 := hB.2.1
          have e70 : M102 56 x2 = N0 70 x2 := (i9 56 x2 (by omega)).trans f1
          have e71 : M102 57 x2 = N0 71 x2 := (i9 57 x2 (by omega)).trans f2
          have nL2 : M102 14 x1 ≤ 1000000000 := by
            unfold tu_L at nL
            omega
          have w4 := tw_w4 (D := M102 14 x1) (l := M102 57 x2) (by omega) (by rw [e71]; exact f4)
          show xa_C (xl_I _) A h0 _ 165 [(2, 0, 0, 0, 0), (0, 0, (-2147483648), 2147483647, x1), (0, 0, (-2147483648), 2147483647, x2)] M102 _
          refine cx_165g_55 (by omega) (by omega) nL t6.1 e70 e71 (by omega) (by omega) ?_
          intro g103 (i11 : g103 = ((M102 13 x1).natAbs : Int) * N0 71 x2 - M102 14 x1 * N0 70 x2) (i12 : -2000000000000 ≤ g103 ∧ g103 ≤ 2000000000000)
          have w3 := tw_w3 i12 (show 0 ≤ x3 ∧ x3 ≤ 2000 by omega)
          show xa_C (xl_I _) A h0 _ 56 [(1, 0, (-9223372036854775808), 9223372036854775807, g103)] M102 _
          refine ct_abs (lo := 0) (hi := 2000000000000) (show -9223372036854775808 < g103 by omega) (fun a104 h105 => ⟨by omega, ?_⟩)
          refine And.intro ?_ ?_
          · intro (c13 : ¬ (a104 * 360) = 0)
            show xa_C (xl_I _) A h0 _ 51 [(2, 12, 0, 0, 0), (0, 0, (-2147483648), 2147483647, x1)] M102 _
            refine cx_51_12 (show 0 ≤ x1 ∧ x1 < 10 by omega) ?_
            show xa_C (xl_I _) A h0 _ 64 [(2, 55, 0, 0, 0), (0, 0, (-2147483648), 2147483647, x2)] M102 _
            refine cx_64_55 (show 0 ≤ x2 ∧ x2 < 8 by omega) ?_
            show xa_C (xl_I _) A h0 _ 21 [(1, 0, (-9223372036854775808), 9223372036854775807, xa_w64 ((xa_w64 ((M102 14 x1) * (M102 57 x2))) * x3)), (1, 0, 0, 720000000000000, a104 * 360)] M102 _
            refine cx_21t rfl (show 1 ≤ (a104 * 360) ∧ (a104 * 360) ≤ 9223372036854775807 by omega) ?_
            refine And.intro ?_ ?_
            · intro (c14 : (xa_w64 (((xa_w64 ((xa_w64 ((M102 14 x1) * (M102 57 x2))) * x3)).tdiv (a104 * 360)) + 1)) ≤ 2000)
              show post (some (0, 0, (-2147483648), 2147483647, xa_w32 (xa_w64 (((xa_w64 ((xa_w64 ((M102 14 x1) * (M102 57 x2))) * x3)).tdiv (a104 * 360)) + 1)))) M102
              refine k _ _ _ _ (Or.inr ⟨⟨by have e := hB.1; omega, by omega⟩, tw_A_to hs0 (fun N _ _ _ h8 _ => Or.inr ⟨fun e => nL ((tw_Lc h8).mpr e), by rw [← h8.2]; exact t6.1, ?_⟩)⟩) (fun q j h1 h2 => i9 q j h1)
              have ge : tw_gp N0 x1 x2 N = g103 := by
                unfold tw_gp
                rw [i11, h8.1, h8.2]
              rw [ge, ← h105, ← h8.2, ← e71]
              obtain ⟨y1, y2⟩ := tw_yr (G := a104 * 360) (P := M102 14 x1 * M102 57 x2) (c := x3) w4.2 (by omega) (by omega)
              rw [w4.1, y1] at c14
              rw [w4.1, y1, xa_w32_id (by omega) (by omega)]
              exact Or.inr ⟨by omega, Or.inr ⟨c14, rfl⟩⟩
            · intro (c14 : 2000 < (xa_w64 (((xa_w64 ((xa_w64 ((M102 14 x1) * (M102 57 x2))) * x3)).tdiv (a104 * 360)) + 1)))
              show post (some (0, 0, (-6), (-6), (-6))) M102
              refine k _ _ _ _ (Or.inr ⟨⟨by have e := hB.1; omega, by omega⟩, tw_A_to hs0 (fun N _ _ _ h8 _ => Or.inr ⟨fun e => nL ((tw_Lc h8).mpr e), by rw [← h8.2]; exact t6.1, ?_⟩)⟩) (fun q j h1 h2 => i9 q j h1)
              have ge : tw_gp N0 x1 x2 N = g103 := by
                unfold tw_gp
                rw [i11, h8.1, h8.2]
              rw [ge, ← h105, ← h8.2, ← e71]
              obtain ⟨y1, y2⟩ := tw_yr (G := a104 * 360) (P := M102 14 x1 * M102 57 x2) (c := x3) w4.2 (by omega) (by omega)
              rw [w4.1, y1] at c14
              exact Or.inr ⟨by omega, Or.inl ⟨c14, rfl⟩⟩
          · intro (c13 : (a104 * 360) = 0)
            show post (some (0, 0, (-6), (-6), (-6))) M102
            refine k _ _ _ _ (Or.inr ⟨⟨by have e := hB.1; omega, by omega⟩, tw_A_to hs0 (fun N _ _ _ h8 _ => Or.inr ⟨fun e => nL ((tw_Lc h8).mpr e), by rw [← h8.2]; exact t6.1, ?_⟩)⟩) (fun q j h1 h2 => i9 q j h1)
            have ge : tw_gp N0 x1 x2 N = g103 := by
              unfold tw_gp
              rw [i11, h8.1, h8.2]
            rw [ge, ← h105, ← h8.2, ← e71]
            exact Or.inl ⟨by omega, rfl⟩
        · intro (c10 : ¬ v101 = 0)
          show post (some (0, 0, (-5), 0, v101)) M102
          exact k _ _ _ _ (Or.inr ⟨⟨by have e := hB.1; omega, by omega⟩, tw_Hn i8 (by omega) (fun N h => Or.inl ⟨h, rfl⟩)⟩) (fun q j h1 h2 => i9 q j h1)
      · intro (c7 : 360 < x3)
        show post (some (0, 0, (-1), (-1), (-1))) M
        exact k _ _ _ _ (Or.inl ⟨by have e := hB.1; omega, rfl⟩) (fun _ _ _ _ => rfl)
