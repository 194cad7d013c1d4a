-- gives on both sides
set_option maxRecDepth 20000
/-- the axle turns as the period, in lowest terms -/
def tw_gq (N0 : xa_M) (a : Int) (N : xa_M) (p : Int) : Prop := ((N 75 a).natAbs : Int) = N0 70 p / (Int.gcd (N0 70 p) (N0 71 p) : Int) ∧ N 76 a = N0 71 p / (Int.gcd (N0 70 p) (N0 71 p) : Int)
def tw_gR (N0 : xa_M) (a : Int) (N : xa_M) (v : Int) : Prop := ∃ N1 : xa_M, N1 75 a = N 75 a ∧ N1 76 a = N 76 a ∧ v = wd_b (tw_gq N0 a N1) (N0 60 11).toNat
/-- by products -/
def tw_gC (N0 : xa_M) (a : Int) (N : xa_M) (v : Int) : Prop := Int.gcd (N 75 a) (N 76 a) = 1 ∧ 1 ≤ N 76 a ∧ v = wd_b (fun p => ((N 75 a).natAbs : Int) * N0 71 p = N 76 a * N0 70 p) (N0 60 11).toNat
theorem tw_cop {a b c : Int} (hg : Int.gcd a b = 1) (h : a ∣ b * c) : a ∣ c := by
  have g1 : Nat.Coprime a.natAbs b.natAbs := hg
  have g2 : a.natAbs ∣ b.natAbs * c.natAbs := by
    rw [← Int.natAbs_mul]
    exact Int.natAbs_dvd_natAbs.mpr h
  exact Int.natAbs_dvd_natAbs.mp (g1.dvd_of_dvd_mul_left g2)
theorem tw_low {U D u l : Int} (hU : 0 ≤ U) (hD : 1 ≤ D) (hu : 0 ≤ u) (hl : 1 ≤ l) (hg : Int.gcd U D = 1) : U * l = D * u ↔ (U = u / (Int.gcd u l : Int) ∧ D = l / (Int.gcd u l : Int)) := by
  have g1 : 1 ≤ (Int.gcd u l : Int) := tu_gp hl
  obtain ⟨u', eu⟩ : (Int.gcd u l : Int) ∣ u := Int.gcd_dvd_left ..
  obtain ⟨l', el⟩ : (Int.gcd u l : Int) ∣ l := Int.gcd_dvd_right ..
  have du : u / (Int.gcd u l : Int) = u' := by
    conv => lhs; lhs; rw [eu]
    exact Int.mul_ediv_cancel_left u' (by omega)
  have dl : l / (Int.gcd u l : Int) = l' := by
    conv => lhs; lhs; rw [el]
    exact Int.mul_ediv_cancel_left l' (by omega)
  have hc : Int.gcd u' l' = 1 := by
    have := Int.gcd_ediv (show (Int.gcd u l : Int) ∣ u from ⟨u', eu⟩) (show (Int.gcd u l : Int) ∣ l from ⟨l', el⟩)
    rw [du, dl, Int.natAbs_natCast] at this
    rw [this]
    exact Nat.div_self (by omega)
  rw [du, dl]
  generalize (Int.gcd u l : Int) = g at g1 eu el du dl
  subst eu
  subst el
  clear du dl
  have l0 : 1 ≤ l' := by
    rcases Int.lt_or_le l' 1 with h | h
    · exfalso
      have := Int.mul_le_mul_of_nonneg_left (show l' ≤ 0 by omega) (show 0 ≤ g by omega)
      omega
    · exact h
  constructor
  · intro h
    have h1 : U * l' = D * u' := by
      have e : g * (U * l') = g * (D * u') := by
        rw [show g * (U * l') = U * (g * l') by ac_rfl, h]
        ac_rfl
      exact Int.eq_of_mul_eq_mul_left (by omega) e
    have d1 : D ∣ l' := tw_cop (by rw [Int.gcd_comm]; exact hg) (show D ∣ U * l' from ⟨u', h1⟩)
    have d2 : l' ∣ D := tw_cop (by rw [Int.gcd_comm]; exact hc) (show l' ∣ u' * D from ⟨U, by rw [Int.mul_comm u' D, ← h1]; exact Int.mul_comm _ _⟩)
    have e1 := Int.le_of_dvd (by omega) d1
    have e2 := Int.le_of_dvd (by omega) d2
    have e3 : D = l' := by omega
    refine ⟨?_, e3⟩
    rw [e3, Int.mul_comm] at h1
    exact Int.eq_of_mul_eq_mul_left (by omega) h1
  · rintro ⟨rfl, rfl⟩
    ac_rfl
theorem tw_g_one {N0 N N' : xa_M} {a v v' : Int} (hb : ∀ p, 0 ≤ p → p < N0 60 11 → 0 ≤ N0 70 p ∧ 1 ≤ N0 71 p) (e1 : N' 75 a = N 75 a) (e2 : N' 76 a = N 76 a) (h : tw_gC N0 a N v) (h' : tw_gR N0 a N' v') : v = v' := by
  obtain ⟨g1, g2, g3⟩ := h
  obtain ⟨N1, f1, f2, g4⟩ := h'
  rw [g3, g4]
  refine wd_b_e _ (fun p hp => ?_)
  have hb := hb (p : Int) (by omega) (by omega)
  show ((N 75 a).natAbs : Int) * N0 71 (p : Int) = N 76 a * N0 70 (p : Int) ↔ tw_gq N0 a N1 (p : Int)
  unfold tw_gq
  rw [f1, f2, e1, e2]
  exact tw_low (by omega) g2 hb.1 hb.2 (by
    show Nat.gcd (((N 75 a).natAbs : Int)).natAbs (N 76 a).natAbs = 1
    rw [Int.natAbs_natCast]
    exact g1)
theorem ms_givesV {A : Nat → Nat} {h0 : g_H} {d : Nat} {M : xa_M} {post : Option xa_V → xa_M → Prop} {l1 u1 : Int} {a : Int} (hI : xm_Inv M) (k : ∀ (o : Option xa_V) (M1 : xa_M), (∃ lo hi n, o = some (0, 0, lo, hi, n) ∧ tw_A M a n (tw_gR M a)) → xm_cor M M1 → post o M1) : xa_C xm_I A h0 (d + 6) 234 [(2, 60, 0, 0, 0), (0, 0, l1, u1, a)] M post := by
  refine xa_C_arg [(2, 60, 0, 0, 0), (0, 0, (-2147483648), 2147483647, a)] (xa_svR (xa_svI (fun _ _ _ _ => by omega) xa_sv0)) ?_
  refine xa_meth (Q0 := (6, 1, false, 0, 0, 12)) (by decide +kernel) ⟨rfl, rfl⟩ (full := s_c_234) rfl rfl ?_
  intro hM hv Q hgo
  have loop : ∀ (n : Nat) (p b : Int) (M1 : xa_M), 0 ≤ p → p ≤ 8 → xm_cor M M1 → b = wd_b (tw_gq M a M1) p.toNat → p ≤ M 60 11 → (∀ v, v = wd_b (tw_gq M a M1) (M 60 11).toNat → tw_A M a v (tw_gR M a)) → 8 - p < (n : Int) → 0 ≤ a → a ≤ 9 → Q 31 [(4, (0, 0, 0, 8, p)), (3, (0, 0, (-2147483648), 2147483647, b)), (1, (0, 0, 0, 9, a)), (0, (2, 60, 0, 0, 0))] [] M1 := by
    intro n
    induction n with
    | zero => intro p b M1 h1 h2 hc hb hle hS hms; clear hb hS; omega
    | succ n ih =>
      intro p b M1 h1 h2 hc hb hle hS hms
      intro ha0 ha1
      refine hgo.2.2 _ _ _ _ (fun hM1 _ => ?_)
      have hI1 := xm_Inv_cor hc hI
      have b11 := xm_f11 hM1
      have e11 := xm_corf hc 11 (by omega)
      have e70 := xm_corq hc 70 rfl p
      have e71 := xm_corq hc 71 rfl p
      have t70 : p < M1 60 11 → 0 ≤ M1 70 p ∧ M1 70 p ≤ 2000 := fun h => xm_t70 hM1 p h1 (by omega)
      have t71 : p < M1 60 11 → 0 ≤ M1 71 p ∧ M1 71 p ≤ 2000 := fun h => xm_t71 hM1 p h1 (by omega)
      have hp := hI1.2.2.1 p h1
      refine hgo.1 55 [31] 31 _ _ _ ?_
      refine And.intro ?_ ?_
      · intro (c1 : (M1 60 11) ≤ p)
        refine And.intro ?_ ?_
        · intro (c2 : (M1 75 a) ≤ 0)
          show xa_C xm_I A h0 _ 231 [(2, 60, 0, 0, 0), (1, 0, 0, 0, 0)] (xa_up M1 60 20 0) _
          refine ct_tell (n := 0) (by first | rfl | (simp [xa_up]; done) | omega) (by omega) (by omega) ?_
          show post (some (0, 0, (-2147483648), 2147483647, b)) (xa_up (xa_up (xa_up M1 60 20 0) 74 0 0) 60 20 1)
          exact k _ _ ⟨_, _, _, rfl, hS _ (by rw [hb, show p = M 60 11 by omega])⟩ (xm_cor_f (by omega) (xm_cor_a rfl (xm_cor_f (by omega) hc)))
        · intro (c2 : 0 < (M1 75 a))
          show xa_C xm_I A h0 _ 231 [(2, 60, 0, 0, 0), (1, 0, (-2147483648), 2147483647, b)] (xa_up M1 60 20 0) _
          refine ct_tell (n := 0) (by first | rfl | (simp [xa_up]; done) | omega) (by omega) (by omega) ?_
          show post (some (0, 0, (-2147483648), 2147483647, b)) (xa_up (xa_up (xa_up M1 60 20 0) 74 0 b) 60 20 1)
          exact k _ _ ⟨_, _, _, rfl, hS _ (by rw [hb, show p = M 60 11 by omega])⟩ (xm_cor_f (by omega) (xm_cor_a rfl (xm_cor_f (by omega) hc)))
      · intro (c1 : p < (M1 60 11))
        refine And.intro (show 0 ≤ p ∧ p < 8 by omega) ?_
        refine And.intro (show 0 ≤ p ∧ p < 8 by omega) ?_
        show xa_C xm_I A h0 _ 229 [(1, 0, 0, 2000, M1 70 p), (1, 0, 0, 2000, M1 71 p)] M1 _
        refine ct_gcd1 (by decide) (by decide) (by omega) (fun g3 eg3 pg3 qg3 => ?_)
        have wg3 := xa_w32_id (n := g3) (by omega) (by omega)
        show xa_C xm_I A h0 _ 56 [(1, 0, (-1000000000000000), 1000000000000000, M1 75 a)] M1 _
        refine ct_absb 1000000000000000 (by decide) (by decide) (by decide) (fun a4 ea4 => ?_)
        refine And.intro (show 0 ≤ p ∧ p < 8 by omega) ?_
        refine And.intro (show 0 < (xa_w32 g3) by omega) ?_
        refine And.intro ?_ ?_
        · intro (c5 : ¬ a4 = ((M1 70 p) / (xa_w32 g3)))
          show Q 31 [(4, (0, 0, 1, 9, p + 1)), (5, (0, 0, (-2147483648), 2147483647, xa_w32 g3)), (3, (0, 0, (-2147483648), 2147483647, b)), (1, (0, 0, 0, 9, a)), (0, (2, 60, 0, 0, 0))] [] M1
          refine hgo.2.1 31 _ [(4, (0, 0, 0, 8, p + 1)), (3, (0, 0, (-2147483648), 2147483647, b)), (1, (0, 0, 0, 9, a)), (0, (2, 60, 0, 0, 0))] _ _ (xa_subI rfl rfl (fun _ _ _ _ => by omega) (xa_subI rfl rfl (fun _ _ _ _ => by omega) (xa_subI rfl rfl (fun _ _ _ _ => by omega) (xa_subR rfl xa_sub0)))) ?_
          exact ih (p + 1) b _ (by omega) (by omega) hc (tw_b0 h1 (fun h => by unfold tw_gq at h; rw [← e70, ← e71, ← eg3, ← wg3, ← ea4] at h; exact c5 h.1) hb) (by omega) hS (by omega) ha0 ha1
        · intro (c5 : a4 = ((M1 70 p) / (xa_w32 g3)))
          refine And.intro (show 0 ≤ p ∧ p < 8 by omega) ?_
          refine And.intro (show 0 < (xa_w32 g3) by omega) ?_
          refine And.intro ?_ ?_
          · intro (c6 : ¬ (M1 76 a) = ((M1 71 p) / (xa_w32 g3)))
            show Q 31 [(4, (0, 0, 1, 9, p + 1)), (5, (0, 0, (-2147483648), 2147483647, xa_w32 g3)), (3, (0, 0, (-2147483648), 2147483647, b)), (1, (0, 0, 0, 9, a)), (0, (2, 60, 0, 0, 0))] [] M1
            refine hgo.2.1 31 _ [(4, (0, 0, 0, 8, p + 1)), (3, (0, 0, (-2147483648), 2147483647, b)), (1, (0, 0, 0, 9, a)), (0, (2, 60, 0, 0, 0))] _ _ (xa_subI rfl rfl (fun _ _ _ _ => by omega) (xa_subI rfl rfl (fun _ _ _ _ => by omega) (xa_subI rfl rfl (fun _ _ _ _ => by omega) (xa_subR rfl xa_sub0)))) ?_
            exact ih (p + 1) b _ (by omega) (by omega) hc (tw_b0 h1 (fun h => by unfold tw_gq at h; rw [← e70, ← e71, ← eg3, ← wg3, ← ea4] at h; exact c6 h.2) hb) (by omega) hS (by omega) ha0 ha1
          · intro (c6 : (M1 76 a) = ((M1 71 p) / (xa_w32 g3)))
            show Q 31 [(4, (0, 0, 1, 9, p + 1)), (3, (0, 0, (-2147483648), 2147483647, xa_ib 4 b (xa_ib 6 1 p))), (5, (0, 0, (-2147483648), 2147483647, xa_w32 g3)), (1, (0, 0, 0, 9, a)), (0, (2, 60, 0, 0, 0))] [] M1
            refine hgo.2.1 31 _ [(4, (0, 0, 0, 8, p + 1)), (3, (0, 0, (-2147483648), 2147483647, xa_ib 4 b (xa_ib 6 1 p))), (1, (0, 0, 0, 9, a)), (0, (2, 60, 0, 0, 0))] _ _ (xa_subI rfl rfl (fun _ _ _ _ => by omega) (xa_subI rfl rfl (fun _ _ _ _ => by omega) (xa_subI rfl rfl (fun _ _ _ _ => by omega) (xa_subR rfl xa_sub0)))) ?_
            exact ih (p + 1) (xa_ib 4 b (xa_ib 6 1 p)) _ (by omega) (by omega) hc (tw_b1 h1 (show tw_gq M a M1 p by unfold tw_gq; rw [← e70, ← e71, ← eg3, ← wg3, ← ea4]; exact ⟨c5, c6⟩) hb) (by omega) hS (by omega) ha0 ha1
  refine hgo.1 21 [31] 0 _ _ _ ?_
  show xa_C xm_I A h0 _ 215 [(0, 0, (-2147483648), 2147483647, a)] (xa_up M 60 21 0) _
  refine ct_isAxle ?_ ?_
  · intro (i1 : 0 ≤ a ∧ a ≤ 9)
    show xa_C xm_I A h0 _ 226 [(2, 60, 0, 0, 0), (0, 0, (-2147483648), 2147483647, a)] (xa_up M 60 21 0) _
    refine xa_C_mok (ct_stateOfF (xm_Inv_cor (xm_cor_f (by omega) xm_cor_r) hI) (by omega) (by omega) (fun v2 w2 M2 hc2 hT2 hF2 hw2 hv2 hs2 hM2 => ?_))
    refine And.intro ?_ ?_
    · intro (c3 : 0 ≤ v2)
      show Q 31 [(4, (0, 0, 0, 0, 0)), (3, (0, 0, 0, 0, 0)), (2, (0, 0, (-5), 0, v2)), (0, (2, 60, 0, 0, 0)), (1, (0, 0, (-2147483648), 2147483647, a))] [] M2
      refine hgo.2.1 31 _ [(4, (0, 0, 0, 8, 0)), (3, (0, 0, (-2147483648), 2147483647, 0)), (1, (0, 0, 0, 9, a)), (0, (2, 60, 0, 0, 0))] _ _ (xa_subI rfl rfl (fun _ _ _ _ => by omega) (xa_subI rfl rfl (fun _ _ _ _ => by omega) (xa_subI rfl rfl (fun _ _ _ _ => by omega) (xa_subR rfl xa_sub0)))) ?_
      exact loop 9 0 0 _ (by omega) (by omega) (xm_cor_t (xm_cor_f (by omega) xm_cor_r) hc2) rfl (xm_f11 hM).1 (fun v e => Or.inr ⟨i1, w2, M2, ⟨_, xm_cor_f (by omega) xm_cor_r, hF2⟩, Or.inr (Or.inr ⟨by omega, by omega, M2, rfl, rfl, e⟩)⟩) (by omega) (by omega) (by omega)
    · intro (c3 : v2 < 0)
      show post (some (0, 0, (-5), 0, v2)) M2
      exact k _ _ ⟨_, _, _, rfl, Or.inr ⟨i1, w2, M2, ⟨_, xm_cor_f (by omega) xm_cor_r, hF2⟩, tw_s3 (T := tw_gR M a) hs2 (by omega)⟩⟩ (xm_cor_t (xm_cor_f (by omega) xm_cor_r) hc2)
  · intro (i1 : ¬ (0 ≤ a ∧ a ≤ 9))
    show post (some (0, 0, (-1), (-1), (-1))) (xa_up M 60 21 0)
    exact k _ _ ⟨_, _, _, rfl, Or.inl ⟨i1, rfl⟩⟩ (xm_cor_f (by omega) xm_cor_r)

theorem tw_w2 {x u : Int} (h : 0 ≤ x ∧ x ≤ 1000000000000000) (h2 : 0 ≤ u ∧ u ≤ 2000) : xa_w64 (x * u) = x * u := by
  have : 0 ≤ x * u ∧ x * u ≤ 2000000000000000000 := xa_mul_ok (p := 0) (q := 1000000000000000) (r := 0) (s := 2000) h.1 h.2 h2.1 h2.2
  exact xa_w64_id (by omega) (by omega)
theorem tw_gf {pb : Nat} {N0 C C1 : xa_M} {a x p : Int} (hB : tk_B pb C N0) (hG : tu_G C C1) (hs : tu_S N0 a 0 C1) (hp : p = N0 60 11) (hb : x = wd_b (fun p => xa_w64 (((C1 13 a).natAbs : Int) * C1 (pb + 2) p) = xa_w64 (C1 14 a * C1 (pb + 1) p)) p.toNat) (hq : 30 ≤ pb) : tw_A N0 a x (tw_gC N0 a) := by
  obtain ⟨-, -, -, -, -, -, t5, t6, -⟩ := tu_S0 hs
  refine tw_A_to hs (fun N _ _ _ h8 hg => ⟨hg, by rw [← h8.2]; exact t6.1, ?_⟩)
  rw [hb, hp]
  refine wd_b_e _ (fun q hq' => ?_)
  obtain ⟨⟨f1, f2⟩, f3, f4⟩ := hB.2.2 (q : Int) (by omega) (by omega)
  have g1 := hG (pb + 1) (q : Int) (by omega)
  have g2 := hG (pb + 2) (q : Int) (by omega)
  show xa_w64 (((C1 13 a).natAbs : Int) * C1 (pb + 2) (q : Int)) = xa_w64 (C1 14 a * C1 (pb + 1) (q : Int)) ↔ ((N 75 a).natAbs : Int) * N0 71 (q : Int) = N 76 a * N0 70 (q : Int)
  rw [g1, g2, f1, f2, tw_w2 (by omega) (by omega), tw_w2 (by omega) (by omega), h8.1, h8.2]
theorem cx_63v_50 {A : Nat → Nat} {h0 : g_H} {d : Nat} {M : xa_M} {post : Option xa_V → xa_M → Prop} {l1 u1 x1 : Int} {N0 : xa_M} (hM0 : tu_M N0) (hC0 : tu_C M N0) (hB : tk_B 50 M N0) (k : ∀ (lo hi v : Int) (M1 : xa_M), tw_A N0 x1 v (tw_gC N0 x1) → (∀ (q : Nat) (j : Int), ¬ (12 ≤ q ∧ q ≤ 14) → ¬ (q = 48 ∨ q = 49) → M1 q j = M q j) → post (some (0, 0, lo, hi, v)) M1) : xa_C (xl_I false) A h0 (d + 8) 63 [(2, 0, 0, 0, 0), (0, 0, l1, u1, x1)] M post := by
  refine xa_C_arg [(2, 0, 0, 0, 0), (0, 0, (-2147483648), 2147483647, x1)] (xa_svR (xa_svI (fun _ _ _ _ => by omega) (xa_sv0))) ?_
  refine xa_meth (Q0 := (7, 1, false, 0, 0, 11)) (by decide +kernel) ⟨rfl, rfl⟩ (full := s_c_63) rfl rfl ?_
  intro hM hv Q hgo
  have n11 := hB.2.1
  have loop : ∀ (f : Nat) (p x : Int) (M1 : xa_M), 0 ≤ p ∧ p ≤ 8 → p ≤ N0 60 11 → tu_G M M1 → tu_S N0 x1 0 M1 → x = wd_b (fun p => xa_w64 (((M1 13 x1).natAbs : Int) * M1 52 p) = xa_w64 (M1 14 x1 * M1 51 p)) p.toNat → 8 - p < (f : Int) → Q 17 [(4, (0, 0, 0, 8, p)), (3, (0, 0, (-2147483648), 2147483647, x)), (1, (0, 0, (-2147483648), 2147483647, x1)), (0, (2, 0, 0, 0, 0))] [] M1 := by
    intro f
    induction f with
    | zero => intro p x M1 p1 hle hG hs hb hms; clear hb; omega
    | succ f ih =>
      intro p x M1 p1 hle hG hs hb hms
      have e4 : M1 50 4 = N0 60 11 := (hG 50 4 (by omega)).trans hB.1
      obtain ⟨ax, N9, t1, t2, t3, t4, t5, t6, t7⟩ := tu_S0 hs
      refine hgo.1 41 [17] 17 _ _ _ ?_
      refine And.intro ?_ ?_
      · intro (c1 : (M1 50 4) ≤ p)
        show xa_C (xl_I _) A h0 _ 59 [(2, 48, 0, 0, 0)] M1 _
        refine cx_59_48 ?_
        show xa_C (xl_I _) A h0 _ 54 [(2, 12, 0, 0, 0), (0, 0, (-2147483648), 2147483647, x1)] (xa_up M1 48 1 0) _
        refine cx_54_12 (show 0 ≤ x1 ∧ x1 < 10 by omega) ?_
        refine And.intro ?_ ?_
        · intro (c2 : (M1 13 x1) ≤ 0)
          show xa_C (xl_I _) A h0 _ 60 [(2, 48, 0, 0, 0), (1, 0, 0, 0, 0)] (xa_up M1 48 1 0) _
          refine cx_60a (by show (0 : Int) ≤ 0; omega) ?_
          intro M101 (i3 : ∀ (q : Nat) (j : Int), ¬ (q = 48 ∨ q = 49) → M101 q j = (xa_up M1 48 1 0) q j) (i4 : (0 : Int) ≤ M101 48 1)
          show post (some (0, 0, (-2147483648), 2147483647, x)) M101
          exact k _ _ _ _ (tw_gf hB hG hs (by omega) hb (by decide)) (fun q j h1 h2 => (i3 q j h2).trans ((xa_up_ne (by omega)).trans (hG q j h1)))
        · intro (c2 : 0 < (M1 13 x1))
          show xa_C (xl_I _) A h0 _ 60 [(2, 48, 0, 0, 0), (1, 0, (-2147483648), 2147483647, x)] (xa_up M1 48 1 0) _
          refine cx_60a (by show (0 : Int) ≤ 0; omega) ?_
          intro M102 (i5 : ∀ (q : Nat) (j : Int), ¬ (q = 48 ∨ q = 49) → M102 q j = (xa_up M1 48 1 0) q j) (i6 : (0 : Int) ≤ M102 48 1)
          show post (some (0, 0, (-2147483648), 2147483647, x)) M102
          exact k _ _ _ _ (tw_gf hB hG hs (by omega) hb (by decide)) (fun q j h1 h2 => (i5 q j h2).trans ((xa_up_ne (by omega)).trans (hG q j h1)))
      · intro (c1 : p < (M1 50 4))
        show xa_C (xl_I _) A h0 _ 54 [(2, 12, 0, 0, 0), (0, 0, (-2147483648), 2147483647, x1)] M1 _
        refine cx_54_12 (show 0 ≤ x1 ∧ x1 < 10 by omega) ?_
        show xa_C (xl_I _) A h0 _ 56 [(1, 0, (-9223372036854775808), 9223372036854775807, M1 13 x1)] M1 _
        refine ct_abs (lo := 0) (hi := 1000000000000000) (show -9223372036854775808 < (M1 13 x1) by omega) (fun a103 h104 => ⟨by omega, ?_⟩)
        show xa_C (xl_I _) A h0 _ 64 [(2, 50, 0, 0, 0), (0, 0, 0, 8, p)] M1 _
        refine cx_64_50 (show 0 ≤ p ∧ p < 8 by omega) ?_
        show xa_C (xl_I _) A h0 _ 51 [(2, 12, 0, 0, 0), (0, 0, (-2147483648), 2147483647, x1)] M1 _
        refine cx_51_12 (show 0 ≤ x1 ∧ x1 < 10 by omega) ?_
        show xa_C (xl_I _) A h0 _ 65 [(2, 50, 0, 0, 0), (0, 0, 0, 8, p)] M1 _
        refine cx_65_50 (show 0 ≤ p ∧ p < 8 by omega) ?_
        refine And.intro ?_ ?_
        · intro (c7 : ¬ (xa_w64 (a103 * (M1 52 p))) = (xa_w64 ((M1 14 x1) * (M1 51 p))))
          show Q 17 [(4, (0, 0, 1, 9, p + 1)), (3, (0, 0, (-2147483648), 2147483647, xa_ib 4 x 0)), (5, (1, 0, (-9223372036854775808), 9223372036854775807, xa_w64 (a103 * (M1 52 p)))), (1, (0, 0, (-2147483648), 2147483647, x1)), (0, (2, 0, 0, 0, 0))] [] M1
          refine hgo.2.1 17 _ [(4, (0, 0, 0, 8, p + 1)), (3, (0, 0, (-2147483648), 2147483647, xa_ib 4 x 0)), (1, (0, 0, (-2147483648), 2147483647, x1)), (0, (2, 0, 0, 0, 0))] _ _ (xa_subI rfl rfl (fun _ _ _ _ => by omega) (xa_subI rfl rfl (fun _ _ _ _ => by omega) (xa_subI rfl rfl (fun _ _ _ _ => by omega) (xa_subR rfl (xa_sub0))))) ?_
          have ea := h104
          exact ih (p + 1) (xa_ib 4 x 0) M1 (by omega) (by omega) hG hs (tw_bz p1.1 (fun h => c7 (by rw [ea]; exact h)) hb) (by omega)
        · intro (c7 : (xa_w64 (a103 * (M1 52 p))) = (xa_w64 ((M1 14 x1) * (M1 51 p))))
          show Q 17 [(4, (0, 0, 1, 9, p + 1)), (3, (0, 0, (-2147483648), 2147483647, xa_ib 4 x (xa_ib 6 1 p))), (5, (1, 0, (-9223372036854775808), 9223372036854775807, xa_w64 (a103 * (M1 52 p)))), (1, (0, 0, (-2147483648), 2147483647, x1)), (0, (2, 0, 0, 0, 0))] [] M1
          refine hgo.2.1 17 _ [(4, (0, 0, 0, 8, p + 1)), (3, (0, 0, (-2147483648), 2147483647, xa_ib 4 x (xa_ib 6 1 p))), (1, (0, 0, (-2147483648), 2147483647, x1)), (0, (2, 0, 0, 0, 0))] _ _ (xa_subI rfl rfl (fun _ _ _ _ => by omega) (xa_subI rfl rfl (fun _ _ _ _ => by omega) (xa_subI rfl rfl (fun _ _ _ _ => by omega) (xa_subR rfl (xa_sub0))))) ?_
          have ea := h104
          exact ih (p + 1) (xa_ib 4 x (xa_ib 6 1 p)) M1 (by omega) (by omega) hG hs (tw_b1 p1.1 (by rw [ea] at c7; exact c7) hb) (by omega)
  refine hgo.1 15 [17] 0 _ _ _ ?_
  show xa_C (xl_I _) A h0 _ 46 [(2, 0, 0, 0, 0), (0, 0, (-2147483648), 2147483647, x1)] M _
  refine cx_46t hM0 hC0 ?_
  intro v105 M106 (i1 : tu_S N0 x1 v105 M106) (i2 : tu_G M M106)
  refine And.intro ?_ ?_
  · intro (c3 : v105 = 0)
    rw [c3] at i1
    have ax := (tu_S0 i1).1
    show Q 17 [(4, (0, 0, 0, 0, 0)), (3, (0, 0, 0, 0, 0)), (2, (0, 0, (-5), 0, v105)), (0, (2, 0, 0, 0, 0)), (1, (0, 0, (-2147483648), 2147483647, x1))] [] M106
    refine hgo.2.1 17 _ [(4, (0, 0, 0, 8, 0)), (3, (0, 0, (-2147483648), 2147483647, 0)), (1, (0, 0, (-2147483648), 2147483647, x1)), (0, (2, 0, 0, 0, 0))] _ _ (xa_subI rfl rfl (fun _ _ _ _ => by omega) (xa_subI rfl rfl (fun _ _ _ _ => by omega) (xa_subI rfl rfl (fun _ _ _ _ => by omega) (xa_subR rfl (xa_sub0))))) ?_
    exact loop 9 0 0 M106 (by omega) (by omega) i2 i1 rfl (by omega)
  · intro (c3 : ¬ v105 = 0)
    show post (some (0, 0, (-5), 0, v105)) M106
    exact k _ _ _ _ (tw_A_of i1 (fun e => absurd e (by omega))) (fun q j h1 h2 => i2 q j h1)
theorem cx_63v_55 {A : Nat → Nat} {h0 : g_H} {d : Nat} {M : xa_M} {post : Option xa_V → xa_M → Prop} {l1 u1 x1 : Int} {N0 : xa_M} (hM0 : tu_M N0) (hC0 : tu_C M N0) (hB : tk_B 55 M N0) (k : ∀ (lo hi v : Int) (M1 : xa_M), tw_A N0 x1 v (tw_gC N0 x1) → (∀ (q : Nat) (j : Int), ¬ (12 ≤ q ∧ q ≤ 14) → ¬ (q = 48 ∨ q = 49) → M1 q j = M q j) → post (some (0, 0, lo, hi, v)) M1) : xa_C (xl_I true) A h0 (d + 8) 63 [(2, 0, 0, 0, 0), (0, 0, l1, u1, x1)] M post := by
  refine xa_C_arg [(2, 0, 0, 0, 0), (0, 0, (-2147483648), 2147483647, x1)] (xa_svR (xa_svI (fun _ _ _ _ => by omega) (xa_sv0))) ?_
  refine xa_meth (Q0 := (7, 1, false, 0, 0, 11)) (by decide +kernel) ⟨rfl, rfl⟩ (full := s_c_63) rfl rfl ?_
  intro hM hv Q hgo
  have n11 := hB.2.1
  have loop : ∀ (f : Nat) (p x : Int) (M1 : xa_M), 0 ≤ p ∧ p ≤ 8 → p ≤ N0 60 11 → tu_G M M1 → tu_S N0 x1 0 M1 → x = wd_b (fun p => xa_w64 (((M1 13 x1).natAbs : Int) * M1 57 p) = xa_w64 (M1 14 x1 * M1 56 p)) p.toNat → 8 - p < (f : Int) → Q 17 [(4, (0, 0, 0, 8, p)), (3, (0, 0, (-2147483648), 2147483647, x)), (1, (0, 0, (-2147483648), 2147483647, x1)), (0, (2, 0, 0, 0, 0))] [] M1 := by
    intro f
    induction f with
    | zero => intro p x M1 p1 hle hG hs hb hms; clear hb; omega
    | succ f ih =>
      intro p x M1 p1 hle hG hs hb hms
      have e4 : M1 55 4 = N0 60 11 := (hG 55 4 (by omega)).trans hB.1
      obtain ⟨ax, N9, t1, t2, t3, t4, t5, t6, t7⟩ := tu_S0 hs
      refine hgo.1 41 [17] 17 _ _ _ ?_
      refine And.intro ?_ ?_
      · intro (c1 : (M1 55 4) ≤ p)
        show xa_C (xl_I _) A h0 _ 59 [(2, 48, 0, 0, 0)] M1 _
        refine cx_59_48 ?_
        show xa_C (xl_I _) A h0 _ 54 [(2, 12, 0, 0, 0), (0, 0, (-2147483648), 2147483647, x1)] (xa_up M1 48 1 0) _
        refine cx_54_12 (show 0 ≤ x1 ∧ x1 < 10 by omega) ?_
        refine And.intro ?_ ?_
        · intro (c2 : (M1 13 x1) ≤ 0)
          show xa_C (xl_I _) A h0 _ 60 [(2, 48, 0, 0, 0), (1, 0, 0, 0, 0)] (xa_up M1 48 1 0) _
          refine cx_60a (by show (0 : Int) ≤ 0; omega) ?_
          intro M101 (i3 : ∀ (q : Nat) (j : Int), ¬ (q = 48 ∨ q = 49) → M101 q j = (xa_up M1 48 1 0) q j) (i4 : (0 : Int) ≤ M101 48 1)
          show post (some (0, 0, (-2147483648), 2147483647, x)) M101
          exact k _ _ _ _ (tw_gf hB hG hs (by omega) hb (by decide)) (fun q j h1 h2 => (i3 q j h2).trans ((xa_up_ne (by omega)).trans (hG q j h1)))
        · intro (c2 : 0 < (M1 13 x1))
          show xa_C (xl_I _) A h0 _ 60 [(2, 48, 0, 0, 0), (1, 0, (-2147483648), 2147483647, x)] (xa_up M1 48 1 0) _
          refine cx_60a (by show (0 : Int) ≤ 0; omega) ?_
          intro M102 (i5 : ∀ (q : Nat) (j : Int), ¬ (q = 48 ∨ q = 49) → M102 q j = (xa_up M1 48 1 0) q j) (i6 : (0 : Int) ≤ M102 48 1)
          show post (some (0, 0, (-2147483648), 2147483647, x)) M102
          exact k _ _ _ _ (tw_gf hB hG hs (by omega) hb (by decide)) (fun q j h1 h2 => (i5 q j h2).trans ((xa_up_ne (by omega)).trans (hG q j h1)))
      · intro (c1 : p < (M1 55 4))
        show xa_C (xl_I _) A h0 _ 54 [(2, 12, 0, 0, 0), (0, 0, (-2147483648), 2147483647, x1)] M1 _
        refine cx_54_12 (show 0 ≤ x1 ∧ x1 < 10 by omega) ?_
        show xa_C (xl_I _) A h0 _ 56 [(1, 0, (-9223372036854775808), 9223372036854775807, M1 13 x1)] M1 _
        refine ct_abs (lo := 0) (hi := 1000000000000000) (show -9223372036854775808 < (M1 13 x1) by omega) (fun a103 h104 => ⟨by omega, ?_⟩)
        show xa_C (xl_I _) A h0 _ 64 [(2, 55, 0, 0, 0), (0, 0, 0, 8, p)] M1 _
        refine cx_64_55 (show 0 ≤ p ∧ p < 8 by omega) ?_
        show xa_C (xl_I _) A h0 _ 51 [(2, 12, 0, 0, 0), (0, 0, (-2147483648), 2147483647, x1)] M1 _
        refine cx_51_12 (show 0 ≤ x1 ∧ x1 < 10 by omega) ?_
        show xa_C (xl_I _) A h0 _ 65 [(2, 55, 0, 0, 0), (0, 0, 0, 8, p)] M1 _
        refine cx_65_55 (show 0 ≤ p ∧ p < 8 by omega) ?_
        refine And.intro ?_ ?_
        · intro (c7 : ¬ (xa_w64 (a103 * (M1 57 p))) = (xa_w64 ((M1 14 x1) * (M1 56 p))))
          show Q 17 [(4, (0, 0, 1, 9, p + 1)), (3, (0, 0, (-2147483648), 2147483647, xa_ib 4 x 0)), (5, (1, 0, (-9223372036854775808), 9223372036854775807, xa_w64 (a103 * (M1 57 p)))), (1, (0, 0, (-2147483648), 2147483647, x1)), (0, (2, 0, 0, 0, 0))] [] M1
          refine hgo.2.1 17 _ [(4, (0, 0, 0, 8, p + 1)), (3, (0, 0, (-2147483648), 2147483647, xa_ib 4 x 0)), (1, (0, 0, (-2147483648), 2147483647, x1)), (0, (2, 0, 0, 0, 0))] _ _ (xa_subI rfl rfl (fun _ _ _ _ => by omega) (xa_subI rfl rfl (fun _ _ _ _ => by omega) (xa_subI rfl rfl (fun _ _ _ _ => by omega) (xa_subR rfl (xa_sub0))))) ?_
          have ea := h104
          exact ih (p + 1) (xa_ib 4 x 0) M1 (by omega) (by omega) hG hs (tw_bz p1.1 (fun h => c7 (by rw [ea]; exact h)) hb) (by omega)
        · intro (c7 : (xa_w64 (a103 * (M1 57 p))) = (xa_w64 ((M1 14 x1) * (M1 56 p))))
          show Q 17 [(4, (0, 0, 1, 9, p + 1)), (3, (0, 0, (-2147483648), 2147483647, xa_ib 4 x (xa_ib 6 1 p))), (5, (1, 0, (-9223372036854775808), 9223372036854775807, xa_w64 (a103 * (M1 57 p)))), (1, (0, 0, (-2147483648), 2147483647, x1)), (0, (2, 0, 0, 0, 0))] [] M1
          refine hgo.2.1 17 _ [(4, (0, 0, 0, 8, p + 1)), (3, (0, 0, (-2147483648), 2147483647, xa_ib 4 x (xa_ib 6 1 p))), (1, (0, 0, (-2147483648), 2147483647, x1)), (0, (2, 0, 0, 0, 0))] _ _ (xa_subI rfl rfl (fun _ _ _ _ => by omega) (xa_subI rfl rfl (fun _ _ _ _ => by omega) (xa_subI rfl rfl (fun _ _ _ _ => by omega) (xa_subR rfl (xa_sub0))))) ?_
          have ea := h104
          exact ih (p + 1) (xa_ib 4 x (xa_ib 6 1 p)) M1 (by omega) (by omega) hG hs (tw_b1 p1.1 (by rw [ea] at c7; exact c7) hb) (by omega)
  refine hgo.1 15 [17] 0 _ _ _ ?_
  show xa_C (xl_I _) A h0 _ 46 [(2, 0, 0, 0, 0), (0, 0, (-2147483648), 2147483647, x1)] M _
  refine cx_46t hM0 hC0 ?_
  intro v105 M106 (i1 : tu_S N0 x1 v105 M106) (i2 : tu_G M M106)
  refine And.intro ?_ ?_
  · intro (c3 : v105 = 0)
    rw [c3] at i1
    have ax := (tu_S0 i1).1
    show Q 17 [(4, (0, 0, 0, 0, 0)), (3, (0, 0, 0, 0, 0)), (2, (0, 0, (-5), 0, v105)), (0, (2, 0, 0, 0, 0)), (1, (0, 0, (-2147483648), 2147483647, x1))] [] M106
    refine hgo.2.1 17 _ [(4, (0, 0, 0, 8, 0)), (3, (0, 0, (-2147483648), 2147483647, 0)), (1, (0, 0, (-2147483648), 2147483647, x1)), (0, (2, 0, 0, 0, 0))] _ _ (xa_subI rfl rfl (fun _ _ _ _ => by omega) (xa_subI rfl rfl (fun _ _ _ _ => by omega) (xa_subI rfl rfl (fun _ _ _ _ => by omega) (xa_subR rfl (xa_sub0))))) ?_
    exact loop 9 0 0 M106 (by omega) (by omega) i2 i1 rfl (by omega)
  · intro (c3 : ¬ v105 = 0)
    show post (some (0, 0, (-5), 0, v105)) M106
    exact k _ _ _ _ (tw_A_of i1 (fun e => absurd e (by omega))) (fun q j h1 h2 => i2 q j h1)
