-- gives on both sides
set_option maxRecDepth 20000
/-- the axle turns as the period, in lowest terms -/
def tw_gq (N0 : xa_M) (a : Int) (N : xa_M) (p : Int) : Prop := ((N 75 a).natAbs : Int) = N0 70 p / (Int.gcd (N0 70 p) (N0 71 p) : Int) ∧ N 76 a = N0 71 p / (Int.gcd (N0 70 p) (N0 71 p) : Int)
def tw_gR (N0 : xa_M) (a : Int) (N : xa_M) (v : Int) : Prop := ∃ N1 : xa_M, N1 75 a = N 75 a ∧ N1 76 a = N 76 a ∧ v = wd_b (tw_gq N0 a N1) (N0 60 11).toNat
/-- by products -/
def tw_gC (N0 : xa_M) (a : Int) (N : xa_M) (v : Int) : Prop := Int.gcd (N 75 a) (N 76 a) = 1 ∧ 1 ≤ N 76 a ∧ v = wd_b (fun p => ((N 75 a).natAbs : Int) * N0 71 p = N 76 a * N0 70 p) (N0 60 11).toNat
theorem tw_cop {a b c : Int} (hg : Int.gcd a b = 1) (h : a ∣ b * c) : a ∣ c := by
  have g1 : Nat.Coprime a.natAbs b.natAbs := hg
  have g2 : a.natAbs ∣ b.natAbs * c.natAbs := by
    rw [← Int.natAbs_mul]
    exact Int.natAbs_dvd_natAbs.mpr h
  exact Int.natAbs_dvd_natAbs.mp (g1.dvd_of_dvd_mul_left g2)
theorem tw_low {U D u l : Int} (hU : 0 ≤ U) (hD : 1 ≤ D) (hu : 0 ≤ u) (hl : 1 ≤ l) (hg : Int.gcd U D = 1) : U * l = D * u ↔ (U = u / (Int.gcd u l : Int) ∧ D = l / (Int.gcd u l : Int)) := by
  have g1 : 1 ≤ (Int.gcd u l : Int) := tu_gp hl
  obtain ⟨u', eu⟩ : (Int.gcd u l : Int) ∣ u := Int.gcd_dvd_left ..
  obtain ⟨l', el⟩ : (Int.gcd u l : Int) ∣ l := Int.gcd_dvd_right ..
  have du : u / (Int.gcd u l : Int) = u' := by
    conv => lhs; lhs; rw [eu]
    exact Int.mul_ediv_cancel_left u' (by omega)
  have dl : l / (Int.gcd u l : Int) = l' := by
    conv => lhs; lhs; rw [el]
    exact Int.mul_ediv_cancel_left l' (by omega)
  have hc : Int.gcd u' l' = 1 := by
    have := Int.gcd_ediv (show (Int.gcd u l : Int) ∣ u from ⟨u', eu⟩) (show (Int.gcd u l : Int) ∣ l from ⟨l', el⟩)
    rw [du, dl, Int.natAbs_natCast] at this
    rw [this]
    exact Nat.div_self (by omega)
  rw [du, dl]
  generalize (Int.gcd u l : Int) = g at g1 eu el du dl
  subst eu
  subst el
  clear du dl
  have l0 : 1 ≤ l' := by
    rcases Int.lt_or_le l' 1 with h | h
    · exfalso
      have := Int.mul_le_mul_of_nonneg_left (show l' ≤ 0 by omega) (show 0 ≤ g by omega)
      omega
    · exact h
  constructor
  · intro h
    have h1 : U * l' = D * u' := by
      have e : g * (U * l') = g * (D * u') := by
        rw [show g * (U * l') = U * (g * l') by ac_rfl, h]
        ac_rfl
      exact Int.eq_of_mul_eq_mul_left (by omega) e
    have d1 : D ∣ l' := tw_cop (by rw [Int.gcd_comm]; exact hg) (show D ∣ U * l' from ⟨u', h1⟩)
    have d2 : l' ∣ D := tw_cop (by rw [Int.gcd_comm]; exact hc) (show l' ∣ u' * D from ⟨U, by rw [Int.mul_comm u' D, ← h1]; exact Int.mul_comm _ _⟩)
    have e1 := Int.le_of_dvd (by omega) d1
    have e2 := Int.le_of_dvd (by omega) d2
    have e3 : D = l' := by omega
    refine ⟨?_, e3⟩
    rw [e3, Int.mul_comm] at h1
    exact Int.eq_of_mul_eq_mul_left (by omega) h1
  · rintro ⟨rfl, rfl⟩
    ac_rfl
theorem tw_g_one {N0 N N' : xa_M} {a v v' : Int} (hb : ∀ p, 0 ≤ p → p < N0 60 11 → 0 ≤ N0 70 p ∧ 1 ≤ N0 71 p) (e1 : N' 75 a = N 75 a) (e2 : N' 76 a = N 76 a) (h : tw_gC N0 a N v) (h' : tw_gR N0 a N' v') : v = v' := by
  obtain ⟨g1, g2, g3⟩ := h
  obtain ⟨N1, f1, f2, g4⟩ := h'
  rw [g3, g4]
  refine wd_b_e _ (fun p hp => ?_)
  have hb := hb (p : Int) (by omega) (by omega)
  show ((N 75 a).natAbs : Int) * N0 71 (p : Int) = N 76 a * N0 70 (p : Int) ↔ tw_gq N0 a N1 (p : Int)
  unfold tw_gq
  rw [f1, f2, e1, e2]
  exact tw_low (by omega) g2 hb.1 hb.2 (by
    show Nat.gcd (((N 75 a).natAbs : Int)).natAbs (N 76 a).natAbs = 1
    rw [Int.natAbs_natCast]
    exact g1)
theorem tw_w2 {x u : Int} (h : 0 ≤ x ∧ x ≤ 1000000000000000) (h2 : 0 ≤ u ∧ u ≤ 2000) : xa_w64 (x * u) = x * u := by
  have : 0 ≤ x * u ∧ x * u ≤ 2000000000000000000 := xa_mul_ok (p := 0) (q := 1000000000000000) (r := 0) (s := 2000) h.1 h.2 h2.1 h2.2
  exact xa_w64_id (by omega) (by omega)
theorem tw_gf {pb : Nat} {N0 C C1 : xa_M} {a x p : Int} (hB : tk_B pb C N0) (hG : tu_G C C1) (hs : tu_S N0 a 0 C1) (hp : p = N0 60 11) (hb : x = wd_b (fun p => xa_w64 (((C1 13 a).natAbs : Int) * C1 (pb + 2) p) = xa_w64 (C1 14 a * C1 (pb + 1) p)) p.toNat) (hq : 30 ≤ pb) : tw_A N0 a x (tw_gC N0 a) := by
  obtain ⟨-, -, -, -, -, -, t5, t6, -⟩ := tu_S0 hs
  refine tw_A_to hs (fun N _ _ _ h8 hg => ⟨hg, by rw [← h8.2]; exact t6.1, ?_⟩)
  rw [hb, hp]
  refine wd_b_e _ (fun q hq' => ?_)
  obtain ⟨⟨f1, f2⟩, f3, f4⟩ := hB.2.2 (q : Int) (by omega) (by omega)
  have g1 := hG (pb + 1) (q : Int) (by omega)
  have g2 := hG (pb + 2) (q : Int) (by omega)
  show xa_w64 (((C1 13 a).natAbs : Int) * C1 (pb + 2) (q : Int)) = xa_w64 (C1 14 a * C1 (pb + 1) (q : Int)) ↔ ((N 75 a).natAbs : Int) * N0 71 (q : Int) = N 76 a * N0 70 (q : Int)
  rw [g1, g2, f1, f2, tw_w2 (by omega) (by omega), tw_w2 (by omega) (by omega), h8.1, h8.2]
