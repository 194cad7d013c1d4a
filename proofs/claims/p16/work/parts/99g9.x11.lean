-- aimed and fit of the class, told
set_option maxRecDepth 20000
/-- the class's book is the reference's -/
def tk_B (pb : Nat) (C N : xa_M) : Prop := C pb 4 = N 60 11 ∧ (0 ≤ N 60 11 ∧ N 60 11 ≤ 8) ∧ ∀ p, 0 ≤ p → p < N 60 11 → (C (pb + 1) p = N 70 p ∧ C (pb + 2) p = N 71 p) ∧ (1 ≤ N 70 p ∧ N 70 p ≤ 2000) ∧ (1 ≤ N 71 p ∧ N 71 p ≤ 2000)
/-- ahead of the first fitting -/
def tk_A (N : xa_M) (p : Int) (C : xa_M) : Prop := (∀ i : Int, 0 ≤ i → i < C 15 10 → C 23 i = N 61 (C 21 i) ∧ C 24 i = N 62 (C 21 i)) ∧ C 15 13 = 0 ∧ Int.gcd (C 15 12) (C 15 11) = 1 ∧ (1 ≤ C 15 11 ∧ C 15 11 ≤ 2000) ∧ (1 ≤ C 15 12 ∧ C 15 12 ≤ 2000) ∧ ∃ g : Int, 1 ≤ g ∧ N 70 p = g * C 15 11 ∧ N 71 p = g * C 15 12
theorem tk_af {N C C1 : xa_M} {X r : Int} {F : Int → Int} (hT : tk_M N) (hR : tk_R C N) (hX : 1 ≤ X ∧ X ≤ 9) (hF : tk_Y N X F) (h1 : F 0 < 99 → r = 1 ∧ C1 16 4 = F 0 ∧ (wp_Q (C 1 10) (C 5) (C 7) (C 8) F (F 0) (C1 18) (C1 19) (C1 20) (F 0)) ∧ (wf_W (C1 19) (C1 20) (C 2) (C 3) (F 0) (C1 15 10) (C1 21) (C1 22) (C1 23) (C1 24) (C 1 9))) (h2 : 99 ≤ F 0 → r = 0) : (r = 0 → tk_N N X) ∧ (¬ r = 0 → tk_L N X (C1 15 10) (C1 21) (C1 22) ∧ (1 ≤ C1 15 10 ∧ C1 15 10 ≤ 14) ∧ tk_pr N (C1 15 10) (C1 21) = fs_pr (C1 23) (C1 24) (C1 15 10).toNat ∧ ∀ i : Int, 0 ≤ i → i < C1 15 10 → (C1 23 i = N 61 (C1 21 i) ∧ C1 24 i = N 62 (C1 21 i)) ∧ 1 ≤ C1 23 i ∧ C1 23 i ≤ C1 24 i ∧ C1 24 i ≤ 400) := by
  refine ⟨fun e => ?_, fun e => ?_⟩
  · by_cases c : F 0 < 99
    · have := (h1 c).1
      omega
    · exact ⟨F, hF, by omega⟩
  · by_cases c : F 0 < 99
    · obtain ⟨-, -, hQ, hW⟩ := h1 c
      obtain ⟨hL, hl⟩ := tk_L_cls hT hR hF c hQ hW
      obtain ⟨s1, -, s3⟩ := tk_lst hT (by omega) hL
      refine ⟨hL, s1, (fs_pr_e _ (fun i i0 i1 => ?_)).symm, fun i i0 i1 => ⟨hl i i0 i1, ?_⟩⟩
      · exact hl i i0 (by omega)
      · obtain ⟨a, b⟩ := hl i i0 i1
        have c := (s3 i i0 i1).2
        rw [a, b]
        omega
    · exact absurd (h2 (by omega)) e
theorem tk_gd {x y g : Int} (hx : 1 ≤ x) (hy : 1 ≤ y) (hg : g = (Int.gcd x y : Int)) : x = g * (x / g) ∧ y = g * (y / g) ∧ Int.gcd (y / g) (x / g) = 1 := by
  obtain ⟨x, rfl⟩ := Int.eq_ofNat_of_zero_le (show 0 ≤ x by omega)
  obtain ⟨y, rfl⟩ := Int.eq_ofNat_of_zero_le (show 0 ≤ y by omega)
  subst hg
  have d1 : Nat.gcd x y ∣ x := Nat.gcd_dvd_left x y
  have d2 : Nat.gcd x y ∣ y := Nat.gcd_dvd_right x y
  have hp : 0 < Nat.gcd x y := Nat.gcd_pos_of_pos_left y (by omega)
  have e1 := Nat.mul_div_cancel' d1
  have e2 := Nat.mul_div_cancel' d2
  have e3 := Nat.coprime_div_gcd_div_gcd hp
  refine ⟨?_, ?_, ?_⟩
  · show ((x : Nat) : Int) = ((Nat.gcd x y : Nat) : Int) * (((x : Nat) : Int) / ((Nat.gcd x y : Nat) : Int))
    rw [← Int.natCast_ediv, ← Int.natCast_mul, e1]
  · show ((y : Nat) : Int) = ((Nat.gcd x y : Nat) : Int) * (((y : Nat) : Int) / ((Nat.gcd x y : Nat) : Int))
    rw [← Int.natCast_ediv, ← Int.natCast_mul, e2]
  · show Int.gcd (((y : Nat) : Int) / ((Nat.gcd x y : Nat) : Int)) (((x : Nat) : Int) / ((Nat.gcd x y : Nat) : Int)) = 1
    rw [← Int.natCast_ediv, ← Int.natCast_ediv]
    show Nat.gcd (y / Nat.gcd x y) (x / Nat.gcd x y) = 1
    rw [Nat.gcd_comm]
    exact e3
theorem tk_aim {N m M1 : xa_M} {X p up dn g : Int} (hL : tk_L N X (m 15 10) (m 21) (m 22)) (hp : tk_pr N (m 15 10) (m 21) ≤ 200000) (hc : (1 ≤ X ∧ X ≤ 9) ∧ 0 ≤ p ∧ p < N 60 11) (hl : ∀ i : Int, 0 ≤ i → i < m 15 10 → m 23 i = N 61 (m 21 i) ∧ m 24 i = N 62 (m 21 i)) (hu : up = N 70 p) (hd : dn = N 71 p) (bu : 1 ≤ up ∧ up ≤ 2000) (bd : 1 ≤ dn ∧ dn ≤ 2000) (hg : g = (Int.gcd up dn : Int)) (g1 : 1 ≤ g) (e : M1 = xa_up (xa_up (xa_up m 15 11 (up / g)) 15 12 (dn / g)) 15 13 0) : tk_S N X p 0 (M1 15 10) (M1 21) (M1 22) ∧ tk_A N p M1 ∧ ∀ q j, ¬ (q = 15 ∧ (j = 11 ∨ j = 12 ∨ j = 13)) → M1 q j = m q j := by
  obtain ⟨x1, x2, x3⟩ := tk_gd bu.1 bd.1 hg
  have du := Int.ediv_nonneg (show 0 ≤ up by omega) (show 0 ≤ g by omega)
  have dd := Int.ediv_nonneg (show 0 ≤ dn by omega) (show 0 ≤ g by omega)
  have lu := Int.ediv_le_self g (show 0 ≤ up by omega)
  have ld := Int.ediv_le_self g (show 0 ≤ dn by omega)
  have fr : ∀ q j, ¬ (q = 15 ∧ (j = 11 ∨ j = 12 ∨ j = 13)) → M1 q j = m q j := fun q j h => by
    rw [e]
    exact (xa_up_ne (by omega)).trans ((xa_up_ne (by omega)).trans (xa_up_ne (by omega)))
  have e11 : M1 15 11 = up / g := by
    rw [e]
    exact (xa_up_ne (by omega)).trans ((xa_up_ne (by omega)).trans xa_up_eq)
  have e12 : M1 15 12 = dn / g := by
    rw [e]
    exact (xa_up_ne (by omega)).trans xa_up_eq
  have e13 : M1 15 13 = 0 := by
    rw [e]
    exact xa_up_eq
  have e10 := fr 15 10 (by omega)
  have e21 : M1 21 = m 21 := funext (fun j => fr 21 j (by omega))
  have e22 : M1 22 = m 22 := funext (fun j => fr 22 j (by omega))
  have n1 : ¬ up / g = 0 := fun h => by
    rw [h, Int.mul_zero] at x1
    omega
  have n2 : ¬ dn / g = 0 := fun h => by
    rw [h, Int.mul_zero] at x2
    omega
  refine ⟨?_, ⟨fun i i0 i1 => ?_, e13, by rw [e11, e12]; exact x3, by rw [e11]; omega, by rw [e12]; omega, g, g1, by rw [e11, ← hu]; exact x1, by rw [e12, ← hd]; exact x2⟩, fr⟩
  · rw [e10, e21, e22]
    exact Or.inr ⟨hc, Or.inr ⟨hL, Or.inr ⟨hp, rfl⟩⟩⟩
  · rw [e10] at i1
    rw [e21, fr 23 i (by omega), fr 24 i (by omega)]
    exact hl i i0 i1
/-- a search: the list stands, it is ahead of the first fitting -/
def tk_Z (N : xa_M) (X p : Int) (Ma : xa_M) : Prop := (1 ≤ X ∧ X ≤ 9) ∧ tk_L N X (Ma 15 10) (Ma 21) (Ma 22) ∧ tk_pr N (Ma 15 10) (Ma 21) ≤ 200000 ∧ tk_A N p Ma
/-- n have been found -/
def tk_st (N : xa_M) (p : Int) (Ma M : xa_M) (n : Int) : Prop := fa_S (Ma 23) (Ma 24) (Ma 22) (Ma 15 12) (Ma 15 11) (tk_F N (Ma 15 10) (Ma 21) (Ma 22) p) M (Ma 15 10 - 1) n
theorem tk_st0 {N Ma : xa_M} {p : Int} (h : tk_A N p Ma) : tk_st N p Ma Ma 0 := Or.inl ⟨h.2.1, rfl⟩
theorem fa_Kr {M : xa_M} : fa_K M M := fun _ _ _ _ _ _ => rfl
theorem fa_Kt {M M1 M2 : xa_M} (h : fa_K M M1) (h2 : fa_K M1 M2) : fa_K M M2 := fun q j a b c e => (h2 q j a b c e).trans (h q j a b c e)
theorem tk_Zl {N : xa_M} {X p : Int} {Ma : xa_M} (hT : tk_M N) (hZ : tk_Z N X p Ma) : (1 ≤ Ma 15 10 ∧ Ma 15 10 ≤ 14) ∧ fb_B (Ma 22) (Ma 15 10) ∧ (∀ i : Int, 0 ≤ i → i < Ma 15 10 → (1 ≤ Ma 23 i ∧ Ma 23 i ≤ Ma 24 i ∧ Ma 24 i ≤ 400) ∧ (0 ≤ Ma 21 i ∧ Ma 21 i < N 60 0)) ∧ tk_F N (Ma 15 10) (Ma 21) (Ma 22) p = fs_F (Ma 23) (Ma 24) (Ma 22) (Ma 15 10).toNat (Ma 15 12) (Ma 15 11) ∧ tk_pr N (Ma 15 10) (Ma 21) = fs_pr (Ma 23) (Ma 24) (Ma 15 10).toNat ∧ (∀ V, tk_rk N (Ma 15 10) (Ma 21) V = fs_rk (Ma 23) (Ma 24) V (Ma 15 10).toNat) ∧ ∀ V, fs_in (Ma 23) (Ma 24) V (Ma 15 10).toNat → tk_in N (Ma 15 10) (Ma 21) V := by
  obtain ⟨hX, hL, -, hl, -, -, -, -, g, g1, ga, gb⟩ := hZ
  obtain ⟨s1, s2, s3⟩ := tk_lst hT (by omega) hL
  have e : ∀ i : Int, 0 ≤ i → i < ((Ma 15 10).toNat : Int) → N 61 (Ma 21 i) = Ma 23 i ∧ N 62 (Ma 21 i) = Ma 24 i := fun i i0 i1 => by
    obtain ⟨a, b⟩ := hl i i0 (by omega)
    exact ⟨a.symm, b.symm⟩
  refine ⟨s1, s2, fun i i0 i1 => ?_, ?_, fs_pr_e _ e, fun V => fs_rk_e2 _ e, fun V h => fs_in_e e h⟩
  · obtain ⟨a, b⟩ := hl i i0 i1
    have c := s3 i i0 i1
    rw [a, b]
    omega
  · unfold tk_F
    rw [ga, gb, fs_F_g (by omega)]
    exact fs_F_e (fun i i0 i1 => ⟨(e i i0 i1).1, (e i i0 i1).2, rfl⟩)
/-- on to the next fitting -/
theorem cx_91t {b : Bool} {A : Nat → Nat} {h0 : g_H} {d : Nat} {M : xa_M} {post : Option xa_V → xa_M → Prop} {N Ma : xa_M} {X p n : Int} (hT : tk_M N) (hZ : tk_Z N X p Ma) (hK : fa_K Ma M) (hS : tk_st N p Ma M n) (k1 : ∀ M1 : xa_M, fa_K Ma M1 → tk_in N (Ma 15 10) (Ma 21) (M1 25) → tk_F N (Ma 15 10) (Ma 21) (Ma 22) p (tk_rk N (Ma 15 10) (Ma 21) (M1 25)) → fs_c (tk_F N (Ma 15 10) (Ma 21) (Ma 22) p) (tk_rk N (Ma 15 10) (Ma 21) (M1 25)).toNat = n → tk_st N p Ma M1 (n + 1) → post (some (0, 0, 0, 1, 1)) M1) (k0 : ∀ M1 : xa_M, fa_K Ma M1 → fs_c (tk_F N (Ma 15 10) (Ma 21) (Ma 22) p) (tk_pr N (Ma 15 10) (Ma 21)).toNat = n → post (some (0, 0, 0, 1, 0)) M1) : xa_C (xl_I b) A h0 (d + 5) 91 [(2, 15, 0, 0, 0)] M post := by
  obtain ⟨l1, l2, l3, l4, l5, l6, l7⟩ := tk_Zl hT hZ
  obtain ⟨hX, hL, hPr, hA⟩ := hZ
  obtain ⟨a1, a2, a3, a4, a5, -⟩ := hA
  have e22 : M 22 = Ma 22 := funext (fun j => hK 22 j (by decide) (by decide) (by decide) (by omega))
  have e23 : M 23 = Ma 23 := funext (fun j => hK 23 j (by decide) (by decide) (by decide) (by omega))
  have e24 : M 24 = Ma 24 := funext (fun j => hK 24 j (by decide) (by decide) (by decide) (by omega))
  have e10 := hK 15 10 (by decide) (by decide) (by decide) (by omega)
  have e11 := hK 15 11 (by decide) (by decide) (by decide) (by omega)
  have e12 := hK 15 12 (by decide) (by decide) (by decide) (by omega)
  have ez : Ma 15 10 - 1 + 1 = Ma 15 10 := by omega
  refine cx_91f (z := Ma 15 10 - 1) (n := n) (F := tk_F N (Ma 15 10) (Ma 21) (Ma 22) p) (by omega) (by omega) ?_ ?_ ?_ (by rw [e11]; exact a4) (by rw [e12]; exact a5) (by rw [e11, e12]; exact a3) ?_ ?_ (fun M1 hK1 hin hf hc hst => ?_) (fun M1 hK1 hc => ?_)
  · rw [ez, e22, e23, e24, e11, e12]
    exact l4
  · rw [ez, e22]
    exact l2
  · rw [e23, e24]
    exact fun i i0 i1 => (l3 i i0 (by omega)).1
  · rw [ez, e23, e24, ← l5]
    exact hPr
  · rw [e22, e23, e24, e11, e12]
    exact hS
  · rw [ez, e23, e24] at hin hf hc
    rw [e22, e23, e24, e11, e12] at hst
    rw [← l6] at hf hc
    exact k1 M1 (fa_Kt hK hK1) (l7 _ hin) hf hc hst
  · rw [ez, e23, e24, ← l5] at hc
    exact k0 M1 (fa_Kt hK hK1) hc
theorem cx_87_50 {b : Bool} {A : Nat → Nat} {h0 : g_H} {d : Nat} {M : xa_M} {post : Option xa_V → xa_M → Prop} {l1 u1 : Int} {x1 : Int} (k1 : (x1 < 0) → post (some (0, 0, 0, 0, 0)) M) (k2 : (0 ≤ x1) → ((M 50 4) ≤ x1) → post (some (0, 0, 0, 0, 0)) M) (k3 : (0 ≤ x1) → (x1 < (M 50 4)) → post (some (0, 0, 1, 1, 1)) M) : xa_C (xl_I b) A h0 (d + 1) 87 [(2, 50, 0, 0, 0), (0, 0, l1, u1, x1)] M post := by
  refine xa_C_arg [(2, 50, 0, 0, 0), (0, 0, (-2147483648), 2147483647, x1)] (xa_svR (xa_svI (fun _ _ _ _ => by omega) (xa_sv0))) ?_
  refine xa_meth (Q0 := (2, 2, false, 0, 0, 0)) (by decide +kernel) ⟨rfl, rfl⟩ (full := s_c_87) rfl rfl ?_
  intro hM hv Q hgo
  refine hgo.1 13 [] 0 _ _ _ ?_
  refine And.intro ?_ ?_
  · intro (c1 : x1 < 0)
    show post (some (0, 0, 0, 0, 0)) M
    exact k1 c1
  · intro (c1 : 0 ≤ x1)
    refine And.intro ?_ ?_
    · intro (c2 : (M 50 4) ≤ x1)
      show post (some (0, 0, 0, 0, 0)) M
      exact k2 c1 c2
    · intro (c2 : x1 < (M 50 4))
      show post (some (0, 0, 1, 1, 1)) M
      exact k3 c1 c2
theorem cx_86_50 {A : Nat → Nat} {h0 : g_H} {d : Nat} {M : xa_M} {post : Option xa_V → xa_M → Prop} {l1 u1 l2 u2 x1 x2 : Int} {F : Int → Int} {N : xa_M} (hT : tk_M N) (hR : tk_R M N) (hB : tk_B 50 M N) (hFF : 1 ≤ x1 ∧ x1 ≤ 9 → tk_Y N x1 F) (k : ∀ (r : Int) (M1 : xa_M), tk_S N x1 x2 r (M1 15 10) (M1 21) (M1 22) → (r = 0 → tk_A N x2 M1) → (∀ q j, ¬ (15 ≤ q ∧ q ≤ 24) → M1 q j = M q j) → post (some (0, 0, (-4), 0, r)) M1) : xa_C (xl_I false) A h0 (d + 6) 86 [(2, 0, 0, 0, 0), (0, 0, l1, u1, x1), (0, 0, l2, u2, x2)] M post := by
  refine xa_C_wk ?_
  refine xa_C_arg [(2, 0, 0, 0, 0), (0, 0, (-2147483648), 2147483647, x1), (0, 0, (-2147483648), 2147483647, x2)] (xa_svR (xa_svI (fun _ _ _ _ => by omega) (xa_svI (fun _ _ _ _ => by omega) xa_sv0))) ?_
  refine xa_meth (Q0 := (3, 1, false, 0, 0, 11)) (by decide +kernel) ⟨rfl, rfl⟩ (full := s_c_86) rfl rfl ?_
  intro hM hv Q hgo
  have hB4 : M 50 4 = N 60 11 := hB.1
  have hB8 := hB.2.1
  have hF0 : 1 ≤ x1 ∧ x1 ≤ 9 → 0 < F 0 := fun h => by
    have := (hFF h).1.1.2.1 0 (by decide) (by decide) (by omega)
    omega
  refine hgo.1 38 [] 0 _ _ _ ?_
  show xa_C (xl_I _) A h0 _ 14 [(0, 0, (-2147483648), 2147483647, x1)] M _
  refine cx_14 ?_ ?_ ?_
  · intro (i1 : x1 < 0)
    show xa_wk post (some (0, 0, (-1), (-1), (-1))) M
    exact xa_wkI (-1) rfl (fun _ _ => by omega) (k (-1) M (Or.inl ⟨fun h => by omega, rfl⟩) (fun h => by omega) (fun _ _ _ => rfl))
  · intro (i2 : 0 ≤ x1) (i3 : 10 ≤ x1)
    show xa_wk post (some (0, 0, (-1), (-1), (-1))) M
    exact xa_wkI (-1) rfl (fun _ _ => by omega) (k (-1) M (Or.inl ⟨fun h => by omega, rfl⟩) (fun h => by omega) (fun _ _ _ => rfl))
  · intro (i4 : 0 ≤ x1) (i5 : x1 < 10)
    refine And.intro ?_ ?_
    · intro (c6 : x1 = 0)
      show xa_wk post (some (0, 0, (-1), (-1), (-1))) M
      exact xa_wkI (-1) rfl (fun _ _ => by omega) (k (-1) M (Or.inl ⟨fun h => by omega, rfl⟩) (fun h => by omega) (fun _ _ _ => rfl))
    · intro (c6 : ¬ x1 = 0)
      show xa_C (xl_I _) A h0 _ 87 [(2, 50, 0, 0, 0), (0, 0, (-2147483648), 2147483647, x2)] M _
      refine cx_87_50 ?_ ?_ ?_
      · intro (i7 : x2 < 0)
        show xa_wk post (some (0, 0, (-1), (-1), (-1))) M
        exact xa_wkI (-1) rfl (fun _ _ => by omega) (k (-1) M (Or.inl ⟨fun h => by omega, rfl⟩) (fun h => by omega) (fun _ _ _ => rfl))
      · intro (i8 : 0 ≤ x2) (i9 : (M 50 4) ≤ x2)
        show xa_wk post (some (0, 0, (-1), (-1), (-1))) M
        exact xa_wkI (-1) rfl (fun _ _ => by omega) (k (-1) M (Or.inl ⟨fun h => by omega, rfl⟩) (fun h => by omega) (fun _ _ _ => rfl))
      · intro (i10 : 0 ≤ x2) (i11 : x2 < (M 50 4))
        show xa_C (xl_I _) A h0 _ 74 [(2, 15, 0, 0, 0), (2, 1, 0, 0, 0), (0, 0, (-2147483648), 2147483647, x1)] M _
        refine cx_74s (tk_R_F hT hR (hFF (by omega))) (by omega) (tk_R_m hT hR).1 (tk_R_m hT hR).2.1 (tk_R_m hT hR).2.2.1 (tk_R_m hT hR).2.2.2 (hF0 (by omega)) ?_
        intro r102 M101 (i12 : F 0 < 99 → r102 = 1 ∧ M101 16 4 = F 0 ∧ (wp_Q (M 1 10) (M 5) (M 7) (M 8) F (F 0) (M101 18) (M101 19) (M101 20) (F 0)) ∧ (wf_W (M101 19) (M101 20) (M 2) (M 3) (F 0) (M101 15 10) (M101 21) (M101 22) (M101 23) (M101 24) (M 1 9))) (i13 : 99 ≤ F 0 → r102 = 0) (i14 : ∀ q j, ¬ (15 ≤ q ∧ q ≤ 24) → M101 q j = M q j)
        have g74 := tk_af hT hR (by omega) (hFF (by omega)) i12 i13
        have hbk : 0 ≤ x2 → x2 < N 60 11 → (M101 51 x2 = N 70 x2 ∧ M101 52 x2 = N 71 x2) ∧ (1 ≤ M101 51 x2 ∧ M101 51 x2 ≤ 2000) ∧ (1 ≤ M101 52 x2 ∧ M101 52 x2 ≤ 2000) := fun a b => by
          have h := hB.2.2 x2 a b
          rw [i14 51 x2 (by omega), i14 52 x2 (by omega)]
          obtain ⟨⟨z1, z2⟩, z3, z4⟩ := h
          have z1 : M 51 x2 = N 70 x2 := z1
          have z2 : M 52 x2 = N 71 x2 := z2
          omega
        refine And.intro ?_ ?_
        · intro (c15 : ¬ r102 = 0)
          show xa_C (xl_I _) A h0 _ 88 [(2, 15, 0, 0, 0)] M101 _
          refine cx_88f (by have := (g74.2 (by omega)).2.1; omega) (fun i i0 i1 => ((g74.2 (by omega)).2.2.2 i i0 i1).2) ?_
          intro r103 (i16 : r103 = 0 ∨ r103 = 1) (i17 : r103 = 1 ↔ fs_pr (M101 23) (M101 24) (M101 15 10).toNat ≤ 200000)
          refine And.intro ?_ ?_
          · intro (c18 : ¬ r103 = 0)
            show xa_C (xl_I _) A h0 _ 65 [(2, 50, 0, 0, 0), (0, 0, (-2147483648), 2147483647, x2)] M101 _
            refine cx_65_50 (show 0 ≤ x2 ∧ x2 < 8 by omega) ?_
            show xa_C (xl_I _) A h0 _ 64 [(2, 50, 0, 0, 0), (0, 0, (-2147483648), 2147483647, x2)] M101 _
            refine cx_64_50 (show 0 ≤ x2 ∧ x2 < 8 by omega) ?_
            show xa_C (xl_I _) A h0 _ 90 [(2, 15, 0, 0, 0), (1, 0, (-2147483648), 2147483647, M101 51 x2), (1, 0, (-2147483648), 2147483647, M101 52 x2)] M101 _
            refine cx_90f (by have := hbk (by omega) (by omega); omega) (by have := hbk (by omega) (by omega); omega) ?_
            intro g104 (i19 : g104 = (Int.gcd (M101 51 x2) (M101 52 x2) : Int)) (i20 : 1 ≤ g104) (i21 : g104 ≤ (M101 51 x2)) (i22 : g104 ≤ (M101 52 x2))
            show xa_wk post (some (0, 0, 0, 0, 0)) (xa_up (xa_up (xa_up M101 15 11 ((M101 51 x2) / g104)) 15 12 ((M101 52 x2) / g104)) 15 13 0)
            obtain ⟨q1, q2, q3, q4⟩ := g74.2 (by omega)
            obtain ⟨⟨b1, b2⟩, b3, b4⟩ := hbk (by omega) (by omega)
            obtain ⟨a1, a2, a3⟩ := tk_aim q1 (by rw [q3]; exact i17.mp (by omega)) ⟨⟨by omega, by omega⟩, by omega, by omega⟩ (fun i i0 i1 => (q4 i i0 i1).1) b1 b2 b3 b4 i19 i20 rfl
            exact xa_wkI 0 rfl (fun _ _ => by omega) (k 0 _ a1 (fun _ => a2) (fun q j h => (a3 q j (by omega)).trans (i14 q j h)))
          · intro (c18 : r103 = 0)
            show xa_wk post (some (0, 0, (-4), (-4), (-4))) M101
            obtain ⟨q1, q2, q3, q4⟩ := g74.2 (by omega)
            exact xa_wkI (-4) rfl (fun _ _ => by omega) (k (-4) _ (Or.inr ⟨⟨by omega, by omega⟩, Or.inr ⟨q1, Or.inl ⟨by rw [q3]; exact Int.lt_of_not_ge (fun h => absurd (i17.mpr h) (by omega)), rfl⟩⟩⟩) (fun h => by omega) i14)
        · intro (c15 : r102 = 0)
          show xa_wk post (some (0, 0, (-2), (-2), (-2))) M101
          exact xa_wkI (-2) rfl (fun _ _ => by omega) (k (-2) _ (Or.inr ⟨⟨by omega, by omega⟩, Or.inl ⟨g74.1 (by omega), rfl⟩⟩) (fun h => by omega) i14)
theorem cx_87_55 {b : Bool} {A : Nat → Nat} {h0 : g_H} {d : Nat} {M : xa_M} {post : Option xa_V → xa_M → Prop} {l1 u1 : Int} {x1 : Int} (k1 : (x1 < 0) → post (some (0, 0, 0, 0, 0)) M) (k2 : (0 ≤ x1) → ((M 55 4) ≤ x1) → post (some (0, 0, 0, 0, 0)) M) (k3 : (0 ≤ x1) → (x1 < (M 55 4)) → post (some (0, 0, 1, 1, 1)) M) : xa_C (xl_I b) A h0 (d + 1) 87 [(2, 55, 0, 0, 0), (0, 0, l1, u1, x1)] M post := by
  refine xa_C_arg [(2, 55, 0, 0, 0), (0, 0, (-2147483648), 2147483647, x1)] (xa_svR (xa_svI (fun _ _ _ _ => by omega) (xa_sv0))) ?_
  refine xa_meth (Q0 := (2, 2, false, 0, 0, 0)) (by decide +kernel) ⟨rfl, rfl⟩ (full := s_c_87) rfl rfl ?_
  intro hM hv Q hgo
  refine hgo.1 13 [] 0 _ _ _ ?_
  refine And.intro ?_ ?_
  · intro (c1 : x1 < 0)
    show post (some (0, 0, 0, 0, 0)) M
    exact k1 c1
  · intro (c1 : 0 ≤ x1)
    refine And.intro ?_ ?_
    · intro (c2 : (M 55 4) ≤ x1)
      show post (some (0, 0, 0, 0, 0)) M
      exact k2 c1 c2
    · intro (c2 : x1 < (M 55 4))
      show post (some (0, 0, 1, 1, 1)) M
      exact k3 c1 c2
theorem cx_86_55 {A : Nat → Nat} {h0 : g_H} {d : Nat} {M : xa_M} {post : Option xa_V → xa_M → Prop} {l1 u1 l2 u2 x1 x2 : Int} {F : Int → Int} {N : xa_M} (hT : tk_M N) (hR : tk_R M N) (hB : tk_B 55 M N) (hFF : 1 ≤ x1 ∧ x1 ≤ 9 → tk_Y N x1 F) (k : ∀ (r : Int) (M1 : xa_M), tk_S N x1 x2 r (M1 15 10) (M1 21) (M1 22) → (r = 0 → tk_A N x2 M1) → (∀ q j, ¬ (15 ≤ q ∧ q ≤ 24) → M1 q j = M q j) → post (some (0, 0, (-4), 0, r)) M1) : xa_C (xl_I true) A h0 (d + 6) 86 [(2, 0, 0, 0, 0), (0, 0, l1, u1, x1), (0, 0, l2, u2, x2)] M post := by
  refine xa_C_wk ?_
  refine xa_C_arg [(2, 0, 0, 0, 0), (0, 0, (-2147483648), 2147483647, x1), (0, 0, (-2147483648), 2147483647, x2)] (xa_svR (xa_svI (fun _ _ _ _ => by omega) (xa_svI (fun _ _ _ _ => by omega) xa_sv0))) ?_
  refine xa_meth (Q0 := (3, 1, false, 0, 0, 11)) (by decide +kernel) ⟨rfl, rfl⟩ (full := s_c_86) rfl rfl ?_
  intro hM hv Q hgo
  have hB4 : M 55 4 = N 60 11 := hB.1
  have hB8 := hB.2.1
  have hF0 : 1 ≤ x1 ∧ x1 ≤ 9 → 0 < F 0 := fun h => by
    have := (hFF h).1.1.2.1 0 (by decide) (by decide) (by omega)
    omega
  refine hgo.1 38 [] 0 _ _ _ ?_
  show xa_C (xl_I _) A h0 _ 14 [(0, 0, (-2147483648), 2147483647, x1)] M _
  refine cx_14 ?_ ?_ ?_
  · intro (i1 : x1 < 0)
    show xa_wk post (some (0, 0, (-1), (-1), (-1))) M
    exact xa_wkI (-1) rfl (fun _ _ => by omega) (k (-1) M (Or.inl ⟨fun h => by omega, rfl⟩) (fun h => by omega) (fun _ _ _ => rfl))
  · intro (i2 : 0 ≤ x1) (i3 : 10 ≤ x1)
    show xa_wk post (some (0, 0, (-1), (-1), (-1))) M
    exact xa_wkI (-1) rfl (fun _ _ => by omega) (k (-1) M (Or.inl ⟨fun h => by omega, rfl⟩) (fun h => by omega) (fun _ _ _ => rfl))
  · intro (i4 : 0 ≤ x1) (i5 : x1 < 10)
    refine And.intro ?_ ?_
    · intro (c6 : x1 = 0)
      show xa_wk post (some (0, 0, (-1), (-1), (-1))) M
      exact xa_wkI (-1) rfl (fun _ _ => by omega) (k (-1) M (Or.inl ⟨fun h => by omega, rfl⟩) (fun h => by omega) (fun _ _ _ => rfl))
    · intro (c6 : ¬ x1 = 0)
      show xa_C (xl_I _) A h0 _ 87 [(2, 55, 0, 0, 0), (0, 0, (-2147483648), 2147483647, x2)] M _
      refine cx_87_55 ?_ ?_ ?_
      · intro (i7 : x2 < 0)
        show xa_wk post (some (0, 0, (-1), (-1), (-1))) M
        exact xa_wkI (-1) rfl (fun _ _ => by omega) (k (-1) M (Or.inl ⟨fun h => by omega, rfl⟩) (fun h => by omega) (fun _ _ _ => rfl))
      · intro (i8 : 0 ≤ x2) (i9 : (M 55 4) ≤ x2)
        show xa_wk post (some (0, 0, (-1), (-1), (-1))) M
        exact xa_wkI (-1) rfl (fun _ _ => by omega) (k (-1) M (Or.inl ⟨fun h => by omega, rfl⟩) (fun h => by omega) (fun _ _ _ => rfl))
      · intro (i10 : 0 ≤ x2) (i11 : x2 < (M 55 4))
        show xa_C (xl_I _) A h0 _ 74 [(2, 15, 0, 0, 0), (2, 1, 0, 0, 0), (0, 0, (-2147483648), 2147483647, x1)] M _
        refine cx_74s (tk_R_F hT hR (hFF (by omega))) (by omega) (tk_R_m hT hR).1 (tk_R_m hT hR).2.1 (tk_R_m hT hR).2.2.1 (tk_R_m hT hR).2.2.2 (hF0 (by omega)) ?_
        intro r102 M101 (i12 : F 0 < 99 → r102 = 1 ∧ M101 16 4 = F 0 ∧ (wp_Q (M 1 10) (M 5) (M 7) (M 8) F (F 0) (M101 18) (M101 19) (M101 20) (F 0)) ∧ (wf_W (M101 19) (M101 20) (M 2) (M 3) (F 0) (M101 15 10) (M101 21) (M101 22) (M101 23) (M101 24) (M 1 9))) (i13 : 99 ≤ F 0 → r102 = 0) (i14 : ∀ q j, ¬ (15 ≤ q ∧ q ≤ 24) → M101 q j = M q j)
        have g74 := tk_af hT hR (by omega) (hFF (by omega)) i12 i13
        have hbk : 0 ≤ x2 → x2 < N 60 11 → (M101 56 x2 = N 70 x2 ∧ M101 57 x2 = N 71 x2) ∧ (1 ≤ M101 56 x2 ∧ M101 56 x2 ≤ 2000) ∧ (1 ≤ M101 57 x2 ∧ M101 57 x2 ≤ 2000) := fun a b => by
          have h := hB.2.2 x2 a b
          rw [i14 56 x2 (by omega), i14 57 x2 (by omega)]
          obtain ⟨⟨z1, z2⟩, z3, z4⟩ := h
          have z1 : M 56 x2 = N 70 x2 := z1
          have z2 : M 57 x2 = N 71 x2 := z2
          omega
        refine And.intro ?_ ?_
        · intro (c15 : ¬ r102 = 0)
          show xa_C (xl_I _) A h0 _ 88 [(2, 15, 0, 0, 0)] M101 _
          refine cx_88f (by have := (g74.2 (by omega)).2.1; omega) (fun i i0 i1 => ((g74.2 (by omega)).2.2.2 i i0 i1).2) ?_
          intro r103 (i16 : r103 = 0 ∨ r103 = 1) (i17 : r103 = 1 ↔ fs_pr (M101 23) (M101 24) (M101 15 10).toNat ≤ 200000)
          refine And.intro ?_ ?_
          · intro (c18 : ¬ r103 = 0)
            show xa_C (xl_I _) A h0 _ 65 [(2, 55, 0, 0, 0), (0, 0, (-2147483648), 2147483647, x2)] M101 _
            refine cx_65_55 (show 0 ≤ x2 ∧ x2 < 8 by omega) ?_
            show xa_C (xl_I _) A h0 _ 64 [(2, 55, 0, 0, 0), (0, 0, (-2147483648), 2147483647, x2)] M101 _
            refine cx_64_55 (show 0 ≤ x2 ∧ x2 < 8 by omega) ?_
            show xa_C (xl_I _) A h0 _ 90 [(2, 15, 0, 0, 0), (1, 0, (-2147483648), 2147483647, M101 56 x2), (1, 0, (-2147483648), 2147483647, M101 57 x2)] M101 _
            refine cx_90f (by have := hbk (by omega) (by omega); omega) (by have := hbk (by omega) (by omega); omega) ?_
            intro g104 (i19 : g104 = (Int.gcd (M101 56 x2) (M101 57 x2) : Int)) (i20 : 1 ≤ g104) (i21 : g104 ≤ (M101 56 x2)) (i22 : g104 ≤ (M101 57 x2))
            show xa_wk post (some (0, 0, 0, 0, 0)) (xa_up (xa_up (xa_up M101 15 11 ((M101 56 x2) / g104)) 15 12 ((M101 57 x2) / g104)) 15 13 0)
            obtain ⟨q1, q2, q3, q4⟩ := g74.2 (by omega)
            obtain ⟨⟨b1, b2⟩, b3, b4⟩ := hbk (by omega) (by omega)
            obtain ⟨a1, a2, a3⟩ := tk_aim q1 (by rw [q3]; exact i17.mp (by omega)) ⟨⟨by omega, by omega⟩, by omega, by omega⟩ (fun i i0 i1 => (q4 i i0 i1).1) b1 b2 b3 b4 i19 i20 rfl
            exact xa_wkI 0 rfl (fun _ _ => by omega) (k 0 _ a1 (fun _ => a2) (fun q j h => (a3 q j (by omega)).trans (i14 q j h)))
          · intro (c18 : r103 = 0)
            show xa_wk post (some (0, 0, (-4), (-4), (-4))) M101
            obtain ⟨q1, q2, q3, q4⟩ := g74.2 (by omega)
            exact xa_wkI (-4) rfl (fun _ _ => by omega) (k (-4) _ (Or.inr ⟨⟨by omega, by omega⟩, Or.inr ⟨q1, Or.inl ⟨by rw [q3]; exact Int.lt_of_not_ge (fun h => absurd (i17.mpr h) (by omega)), rfl⟩⟩⟩) (fun h => by omega) i14)
        · intro (c15 : r102 = 0)
          show xa_wk post (some (0, 0, (-2), (-2), (-2))) M101
          exact xa_wkI (-2) rfl (fun _ _ => by omega) (k (-2) _ (Or.inr ⟨⟨by omega, by omega⟩, Or.inl ⟨g74.1 (by omega), rfl⟩⟩) (fun h => by omega) i14)
theorem cx_23_21 {b : Bool} {A : Nat → Nat} {h0 : g_H} {d : Nat} {M : xa_M} {post : Option xa_V → xa_M → Prop} {l1 u1 : Int} {i : Int} (h1 : 0 ≤ i ∧ i < 14) (k1 : post (some (0, 0, (-2147483648), 2147483647, M 21 i)) M) : xa_C (xl_I b) A h0 (d + 1) 23 [(2, 21, 0, 0, 0), (0, 0, l1, u1, i)] M post := by
  refine xa_C_arg [(2, 21, 0, 0, 0), (0, 0, (-2147483648), 2147483647, i)] (xa_svR (xa_svI (fun _ _ _ _ => by omega) xa_sv0)) ?_
  refine xa_meth (Q0 := (2, 1, false, 0, 0, 11)) (by decide +kernel) ⟨rfl, rfl⟩ (full := s_c_23) rfl rfl ?_
  intro hM hv Q hgo
  refine hgo.1 15 [] 0 _ _ _ ?_
  refine And.intro ?_ ?_
  · intro (c1 : i < 0)
    show post (some (0, 0, 0, 0, 0)) M
    exact absurd h1 (by omega)
  · intro (c1 : 0 ≤ i)
    refine And.intro ?_ ?_
    · intro (c2 : 14 ≤ i)
      show post (some (0, 0, 0, 0, 0)) M
      exact absurd h1 (by omega)
    · intro (c2 : i < 14)
      refine And.intro (show 0 ≤ i ∧ i < 14 by omega) ?_
      show post (some (0, 0, (-2147483648), 2147483647, M 21 i)) M
      exact k1
theorem cx_29_1 {b : Bool} {A : Nat → Nat} {h0 : g_H} {d : Nat} {M : xa_M} {post : Option xa_V → xa_M → Prop} {l1 u1 l2 u2 : Int} {x1 x2 : Int} (h1 : 0 ≤ x1 ∧ x1 < 14) (k1 : post none (xa_up M 4 x1 x2)) : xa_C (xl_I b) A h0 (d + 2) 29 [(2, 1, 0, 0, 0), (0, 0, l1, u1, x1), (0, 0, l2, u2, x2)] M post := by
  refine xa_C_arg [(2, 1, 0, 0, 0), (0, 0, (-2147483648), 2147483647, x1), (0, 0, (-2147483648), 2147483647, x2)] (xa_svR (xa_svI (fun _ _ _ _ => by omega) (xa_svI (fun _ _ _ _ => by omega) (xa_sv0)))) ?_
  refine xa_meth (Q0 := (3, 0, false, 0, 0, 1)) (by decide +kernel) ⟨rfl, rfl⟩ (full := s_c_29) rfl rfl ?_
  intro hM hv Q hgo
  refine hgo.1 10 [] 0 _ _ _ ?_
  show xa_C (xl_I b) A h0 _ 18 [(2, 4, 0, 0, 0), (0, 0, (-2147483648), 2147483647, x1), (0, 0, (-2147483648), 2147483647, x2)] M _
  refine cx_18_4 (show 0 ≤ x1 ∧ x1 < 14 by omega) ?_
  show post none (xa_up M 4 x1 x2)
  exact k1
theorem cx_100t {b : Bool} {A : Nat → Nat} {h0 : g_H} {d : Nat} {M : xa_M} {post : Option xa_V → xa_M → Prop} (hs : 0 ≤ M 15 10 ∧ M 15 10 ≤ 14) (hw : ∀ i : Int, 0 ≤ i → i < M 15 10 → 0 ≤ M 21 i ∧ M 21 i < 14) (hi : ∀ i j : Int, 0 ≤ i → i < M 15 10 → 0 ≤ j → j < M 15 10 → M 21 i = M 21 j → i = j) (k : ∀ M1 : xa_M, (∀ (q : Nat) (j : Int), ¬ q = 4 → M1 q j = M q j) → (∀ j : Int, 0 ≤ j → j < M 15 10 → M1 4 (M 21 j) = M 25 j) → (∀ w : Int, (∀ j : Int, 0 ≤ j → j < M 15 10 → ¬ M 21 j = w) → M1 4 w = M 4 w) → post none M1) : xa_C (xl_I b) A h0 (d + 3) 100 [(2, 15, 0, 0, 0), (2, 1, 0, 0, 0)] M post := by
  refine xa_meth (Q0 := (3, 0, false, 0, 0, 3)) (by decide +kernel) ⟨rfl, rfl⟩ (full := s_c_100) rfl rfl ?_
  intro hM hv Q hgo
  have loop : ∀ (f : Nat) (i : Int) (M1 : xa_M), 0 ≤ i ∧ i ≤ M 15 10 → (∀ (q : Nat) (j : Int), ¬ q = 4 → M1 q j = M q j) → (∀ j : Int, 0 ≤ j → j < i → M1 4 (M 21 j) = M 25 j) → (∀ w : Int, (∀ j : Int, 0 ≤ j → j < i → ¬ M 21 j = w) → M1 4 w = M 4 w) → 14 - i < (f : Int) → Q 2 [(2, (0, 0, 0, 14, i)), (1, (2, 1, 0, 0, 0)), (0, (2, 15, 0, 0, 0))] [] M1 := by
    intro f
    induction f with
    | zero => intro i M1 i1 hk ht hn hms; omega
    | succ f ih =>
      intro i M1 i1 hk ht hn hms
      have e10 := hk 15 10 (by decide)
      have e21 := hk 21 i (by decide)
      have e25 := hk 25 i (by decide)
      have w21 : i < M 15 10 → 0 ≤ M1 21 i ∧ M1 21 i < 14 := fun h => by
        rw [e21]
        exact hw i i1.1 h
      refine hgo.1 21 [2] 2 _ _ _ ?_
      refine And.intro ?_ ?_
      · intro (c1 : (M1 15 10) ≤ i)
        show post none M1
        have ex : i = M 15 10 := by omega
        exact k M1 hk (by rw [← ex]; exact ht) (by rw [← ex]; exact hn)
      · intro (c1 : i < (M1 15 10))
        show xa_C (xl_I b) A h0 _ 23 [(2, 21, 0, 0, 0), (0, 0, 0, 14, i)] M1 _
        refine cx_23_21 (show 0 ≤ i ∧ i < 14 by omega) ?_
        show xa_C (xl_I b) A h0 _ 23 [(2, 25, 0, 0, 0), (0, 0, 0, 14, i)] M1 _
        refine cx_23_25 (show 0 ≤ i ∧ i < 14 by omega) ?_
        show xa_C (xl_I b) A h0 _ 29 [(2, 1, 0, 0, 0), (0, 0, (-2147483648), 2147483647, M1 21 i), (0, 0, (-2147483648), 2147483647, M1 25 i)] M1 _
        refine cx_29_1 (show 0 ≤ (M1 21 i) ∧ (M1 21 i) < 14 by omega) ?_
        show Q 2 [(2, (0, 0, 1, 15, i + 1)), (1, (2, 1, 0, 0, 0)), (0, (2, 15, 0, 0, 0))] [] (xa_up M1 4 (M1 21 i) (M1 25 i))
        refine hgo.2.1 2 _ [(2, (0, 0, 0, 14, i + 1)), (1, (2, 1, 0, 0, 0)), (0, (2, 15, 0, 0, 0))] _ _ (xa_subI rfl rfl (fun _ _ _ _ => by omega) (xa_subR rfl (xa_subR rfl (xa_sub0)))) ?_
        refine ih (i + 1) (xa_up M1 4 (M1 21 i) (M1 25 i)) (by omega) (fun q j hq => (xa_up_ne (fun h => hq h.1)).trans (hk q j hq)) (fun j j0 j1 => ?_) (fun w hw9 => ?_) (by omega)
        · by_cases e : j = i
          · rw [e, e21, e25]
            exact xa_up_eq
          · rw [e21]
            exact (xa_up_ne (fun h => e (hi j i j0 (by omega) i1.1 (by omega) h.2))).trans (ht j j0 (by omega))
        · rw [e21]
          exact (xa_up_ne (fun h => hw9 i i1.1 (by omega) h.2.symm)).trans (hn w (fun j j0 j1 => hw9 j j0 (by omega)))
  refine hgo.1 7 [2] 0 _ _ _ ?_
  show Q 2 [(2, (0, 0, 0, 0, 0)), (0, (2, 15, 0, 0, 0)), (1, (2, 1, 0, 0, 0))] [] M
  refine hgo.2.1 2 _ [(2, (0, 0, 0, 14, 0)), (1, (2, 1, 0, 0, 0)), (0, (2, 15, 0, 0, 0))] _ _ (xa_subI rfl rfl (fun _ _ _ _ => by omega) (xa_subR rfl (xa_subR rfl (xa_sub0)))) ?_
  exact loop 15 0 M (by omega) (fun _ _ _ => rfl) (fun j j0 j1 => by omega) (fun _ _ => rfl) (by omega)
theorem tk_c1 {N Ma M : xa_M} {X p : Int} (hT : tk_M N) (hZ : tk_Z N X p Ma) (hK : fa_K Ma M) : 0 ≤ M 15 10 ∧ M 15 10 ≤ 14 := by
  have e10 := hK 15 10 (by decide) (by decide) (by decide) (by omega)
  have := (tk_Zl hT hZ).1
  omega
theorem tk_c2 {N Ma M : xa_M} {X p : Int} (hT : tk_M N) (hZ : tk_Z N X p Ma) (hK : fa_K Ma M) (i : Int) (i0 : 0 ≤ i) (i1 : i < M 15 10) : 0 ≤ M 21 i ∧ M 21 i < 14 := by
  have e10 := hK 15 10 (by decide) (by decide) (by decide) (by omega)
  have e21 := hK 21 i (by decide) (by decide) (by decide) (by omega)
  have := ((tk_Zl hT hZ).2.2.1 i i0 (by omega)).2
  have := hT.1
  omega
theorem tk_c3 {N Ma M : xa_M} {X p : Int} (hT : tk_M N) (hZ : tk_Z N X p Ma) (hK : fa_K Ma M) (i j : Int) (i0 : 0 ≤ i) (i1 : i < M 15 10) (j0 : 0 ≤ j) (j1 : j < M 15 10) (e : M 21 i = M 21 j) : i = j := by
  have e10 := hK 15 10 (by decide) (by decide) (by decide) (by omega)
  have e1 := hK 21 i (by decide) (by decide) (by decide) (by omega)
  have e2 := hK 21 j (by decide) (by decide) (by decide) (by omega)
  exact tk_inj hT hZ.2.1 i j i0 (by omega) j0 (by omega) (by omega)
/-- fit has found the n-th -/
theorem tk_fit1 {N Ma M M1 C : xa_M} {X p n : Int} (hS : tk_S N X p 0 (Ma 15 10) (Ma 21) (Ma 22)) (hn : 0 ≤ n) (hC : ∀ w : Int, 0 ≤ w → w < 14 → Ma 4 w = N 63 w) (hK : fa_K Ma M) (v1 : tk_in N (Ma 15 10) (Ma 21) (M 25)) (v2 : tk_F N (Ma 15 10) (Ma 21) (Ma 22) p (tk_rk N (Ma 15 10) (Ma 21) (M 25))) (v3 : fs_c (tk_F N (Ma 15 10) (Ma 21) (Ma 22) p) (tk_rk N (Ma 15 10) (Ma 21) (M 25)).toNat = n) (ht : ∀ j : Int, 0 ≤ j → j < M 15 10 → M1 4 (M 21 j) = M 25 j) (ho : ∀ w : Int, (∀ j : Int, 0 ≤ j → j < M 15 10 → ¬ M 21 j = w) → M1 4 w = M 4 w) : tk_T N X p n 1 (M1 4) := by
  have e10 := hK 15 10 (by decide) (by decide) (by decide) (by omega)
  have e21 := fun j => hK 21 j (by decide) (by decide) (by decide) (by omega)
  refine Or.inr ⟨hn, 0, Ma 15 10, Ma 21, Ma 22, hS, Or.inr ⟨rfl, Or.inr ⟨rfl, M 25, v1, v2, v3, fun j j0 j1 => ?_, fun w w0 w1 hw => ?_⟩⟩⟩
  · rw [← e21 j]
    exact ht j j0 (by omega)
  · exact (ho w (fun j j0 j1 => by rw [e21 j]; exact hw j j0 (by omega))).trans ((hK 4 w (by decide) (by decide) (by decide) (by omega)).trans (hC w w0 w1))
theorem tk_fit0 {N Ma M : xa_M} {X p n m : Int} (hS : tk_S N X p 0 (Ma 15 10) (Ma 21) (Ma 22)) (hn : 0 ≤ n) (hC : ∀ w : Int, 0 ≤ w → w < 14 → Ma 4 w = N 63 w) (hK : fa_K Ma M) (hc : fs_c (tk_F N (Ma 15 10) (Ma 21) (Ma 22) p) (tk_pr N (Ma 15 10) (Ma 21)).toNat = m) (hm : m ≤ n) : tk_T N X p n 0 (M 4) :=
  Or.inr ⟨hn, 0, Ma 15 10, Ma 21, Ma 22, hS, Or.inr ⟨rfl, Or.inl ⟨rfl, by rw [hc]; exact hm, fun w w0 w1 => (hK 4 w (by decide) (by decide) (by decide) (by omega)).trans (hC w w0 w1)⟩⟩⟩
/-- all tuples are behind: none is left -/
theorem tk_all {N Ma M : xa_M} {X p n : Int} (hT : tk_M N) (hZ : tk_Z N X p Ma) (hst : tk_st N p Ma M n) (hn : 200000 ≤ n) : fs_c (tk_F N (Ma 15 10) (Ma 21) (Ma 22) p) (tk_pr N (Ma 15 10) (Ma 21)).toNat ≤ n := by
  have hb := (fs_cb (F := tk_F N (Ma 15 10) (Ma 21) (Ma 22) p) (tk_pr N (Ma 15 10) (Ma 21)).toNat).2
  have hp := hZ.2.2.1
  omega
theorem cx_99_50 {A : Nat → Nat} {h0 : g_H} {d : Nat} {M : xa_M} {post : Option xa_V → xa_M → Prop} {l1 u1 l2 u2 l3 u3 x1 x2 x3 : Int} {F : Int → Int} {N : xa_M} (hT : tk_M N) (hR : tk_R M N) (hB : tk_B 50 M N) (hFF : 1 ≤ x1 ∧ x1 ≤ 9 → tk_Y N x1 F) (hC0 : ∀ w : Int, 0 ≤ w → w < 14 → M 4 w = N 63 w) (k : ∀ (lo hi r : Int) (M1 : xa_M), tk_T N x1 x2 x3 r (M1 4) → (∀ q j, ¬ q = 4 → ¬ (15 ≤ q ∧ q ≤ 27) → M1 q j = M q j) → post (some (0, 0, lo, hi, r)) M1) : xa_C (xl_I false) A h0 (d + 7) 99 [(2, 0, 0, 0, 0), (0, 0, l1, u1, x1), (0, 0, l2, u2, x2), (0, 0, l3, u3, x3)] M post := by
  refine xa_C_arg [(2, 0, 0, 0, 0), (0, 0, (-2147483648), 2147483647, x1), (0, 0, (-2147483648), 2147483647, x2), (0, 0, (-2147483648), 2147483647, x3)] (xa_svR (xa_svI (fun _ _ _ _ => by omega) (xa_svI (fun _ _ _ _ => by omega) (xa_svI (fun _ _ _ _ => by omega) xa_sv0)))) ?_
  refine xa_meth (Q0 := (5, 2, false, 0, 0, 11)) (by decide +kernel) ⟨rfl, rfl⟩ (full := s_c_99) rfl rfl ?_
  intro hM hv Q hgo
  have loop : ∀ (Ma : xa_M), tk_S N x1 x2 0 (Ma 15 10) (Ma 21) (Ma 22) → 0 ≤ x3 → tk_Z N x1 x2 Ma → (∀ w : Int, 0 ≤ w → w < 14 → Ma 4 w = N 63 w) → (∀ M1 : xa_M, fa_K Ma M1 → ∀ (q : Nat) (j : Int), ¬ q = 4 → ¬ (15 ≤ q ∧ q ≤ 27) → M1 q j = M q j) → ∀ (f : Nat) (i : Int) (M1 : xa_M), 0 ≤ i ∧ i ≤ 200000 → fa_K Ma M1 → tk_st N x2 Ma M1 i → i ≤ x3 → 200000 - i < (f : Int) → Q 18 [(4, (0, 0, 0, 200000, i)), (3, (0, 0, (-2147483648), 2147483647, x3)), (2, (0, 0, (-2147483648), 2147483647, x2)), (1, (0, 0, (-2147483648), 2147483647, x1)), (0, (2, 0, 0, 0, 0))] [] M1 := by
    intro Ma hS hx3 hZ hC4 hfr f
    induction f with
    | zero => intro i M1 i1 hK hst hle hms; omega
    | succ f ih =>
      intro i M1 i1 hK hst hle hms
      refine hgo.1 21 [18] 18 _ _ _ ?_
      refine And.intro ?_ ?_
      · intro (c1 : 200000 ≤ i)
        show post (some (0, 0, 0, 0, 0)) M1
        exact k _ _ 0 M1 (tk_fit0 hS hx3 hC4 hK rfl (Int.le_trans (tk_all hT hZ hst (by omega)) (by omega))) (fun q j h1 h2 => hfr M1 hK q j h1 h2)
      · intro (c1 : i < 200000)
        show xa_C (xl_I _) A h0 _ 91 [(2, 15, 0, 0, 0)] M1 _
        refine cx_91t hT hZ hK hst ?_ ?_
        · intro M101 (i2 : fa_K Ma M101) (i3 : tk_in N (Ma 15 10) (Ma 21) (M101 25)) (i4 : tk_F N (Ma 15 10) (Ma 21) (Ma 22) x2 (tk_rk N (Ma 15 10) (Ma 21) (M101 25))) (i5 : fs_c (tk_F N (Ma 15 10) (Ma 21) (Ma 22) x2) (tk_rk N (Ma 15 10) (Ma 21) (M101 25)).toNat = i) (i6 : tk_st N x2 Ma M101 (i + 1))
          refine And.intro ?_ ?_
          · intro (c7 : 1 = 0)
            exfalso
            omega
          · intro (c7 : ¬ 1 = 0)
            refine And.intro ?_ ?_
            · intro (c8 : ¬ i = x3)
              show Q 18 [(4, (0, 0, 1, 200001, i + 1)), (3, (0, 0, (-2147483648), 2147483647, x3)), (2, (0, 0, (-2147483648), 2147483647, x2)), (1, (0, 0, (-2147483648), 2147483647, x1)), (0, (2, 0, 0, 0, 0))] [] M101
              refine hgo.2.1 18 _ [(4, (0, 0, 0, 200000, i + 1)), (3, (0, 0, (-2147483648), 2147483647, x3)), (2, (0, 0, (-2147483648), 2147483647, x2)), (1, (0, 0, (-2147483648), 2147483647, x1)), (0, (2, 0, 0, 0, 0))] _ _ (xa_subI rfl rfl (fun _ _ _ _ => by omega) (xa_subI rfl rfl (fun _ _ _ _ => by omega) (xa_subI rfl rfl (fun _ _ _ _ => by omega) (xa_subI rfl rfl (fun _ _ _ _ => by omega) (xa_subR rfl (xa_sub0)))))) ?_
              exact ih (i + 1) M101 (by omega) i2 i6 (by omega) (by omega)
            · intro (c8 : i = x3)
              show xa_C (xl_I _) A h0 _ 100 [(2, 15, 0, 0, 0), (2, 1, 0, 0, 0)] M101 _
              refine cx_100t (tk_c1 hT hZ i2) (tk_c2 hT hZ i2) (tk_c3 hT hZ i2) ?_
              intro M102 (i9 : ∀ (q : Nat) (j : Int), ¬ q = 4 → M102 q j = M101 q j) (i10 : ∀ j : Int, 0 ≤ j → j < M101 15 10 → M102 4 (M101 21 j) = M101 25 j) (i11 : ∀ w : Int, (∀ j : Int, 0 ≤ j → j < M101 15 10 → ¬ M101 21 j = w) → M102 4 w = M101 4 w)
              show post (some (0, 0, 1, 1, 1)) M102
              exact k _ _ 1 _ (tk_fit1 (C := M) hS hx3 hC4 i2 i3 i4 (i5.trans c8) i10 i11) (fun q j h1 h2 => (i9 q j h1).trans (hfr _ i2 q j h1 h2))
        · intro M101 (i12 : fa_K Ma M101) (i13 : fs_c (tk_F N (Ma 15 10) (Ma 21) (Ma 22) x2) (tk_pr N (Ma 15 10) (Ma 21)).toNat = i)
          refine And.intro ?_ ?_
          · intro (c14 : 0 = 0)
            show post (some (0, 0, 0, 0, 0)) M101
            exact k _ _ 0 _ (tk_fit0 hS hx3 hC4 i12 i13 (by omega)) (fun q j h1 h2 => hfr _ i12 q j h1 h2)
          · intro (c14 : ¬ 0 = 0)
            exfalso
            omega
  refine hgo.1 14 [18] 0 _ _ _ ?_
  refine And.intro ?_ ?_
  · intro (c1 : x3 < 0)
    show post (some (0, 0, 0, 0, 0)) M
    exact k _ _ 0 M (Or.inl ⟨by omega, rfl, hC0⟩) (fun _ _ _ _ => rfl)
  · intro (c1 : 0 ≤ x3)
    show xa_C (xl_I _) A h0 _ 86 [(2, 0, 0, 0, 0), (0, 0, (-2147483648), 2147483647, x1), (0, 0, (-2147483648), 2147483647, x2)] M _
    refine cx_86_50 hT hR hB hFF ?_
    intro r104 M103 (i2 : tk_S N x1 x2 r104 (M103 15 10) (M103 21) (M103 22)) (i3 : r104 = 0 → tk_A N x2 M103) (i4 : ∀ q j, ¬ (15 ≤ q ∧ q ≤ 24) → M103 q j = M q j)
    refine And.intro ?_ ?_
    · intro (c5 : r104 = 0)
      show Q 18 [(4, (0, 0, 0, 0, 0)), (0, (2, 0, 0, 0, 0)), (1, (0, 0, (-2147483648), 2147483647, x1)), (2, (0, 0, (-2147483648), 2147483647, x2)), (3, (0, 0, (-2147483648), 2147483647, x3))] [] M103
      have er : r104 = 0 := by omega
      rw [er] at i2
      obtain ⟨z1, -, z3, z4⟩ := tk_S_L i2
      have hA := i3 er
      refine hgo.2.1 18 _ [(4, (0, 0, 0, 200000, 0)), (3, (0, 0, (-2147483648), 2147483647, x3)), (2, (0, 0, (-2147483648), 2147483647, x2)), (1, (0, 0, (-2147483648), 2147483647, x1)), (0, (2, 0, 0, 0, 0))] _ _ (xa_subI rfl rfl (fun _ _ _ _ => by omega) (xa_subI rfl rfl (fun _ _ _ _ => by omega) (xa_subI rfl rfl (fun _ _ _ _ => by omega) (xa_subI rfl rfl (fun _ _ _ _ => by omega) (xa_subR rfl (xa_sub0)))))) ?_
      exact loop M103 i2 (by omega) ⟨z1, z3, z4, hA⟩ (fun w w0 w1 => (i4 4 w (by omega)).trans (hC0 w w0 w1)) (fun M1 hK q j h1 h2 => (hK q j (by omega) (by omega) (by omega) (by omega)).trans (i4 q j (by omega))) 200001 0 M103 (by omega) fa_Kr (tk_st0 hA) (by omega) (by omega)
    · intro (c5 : ¬ r104 = 0)
      show post (some (0, 0, 0, 0, 0)) M103
      exact k _ _ 0 _ (Or.inr ⟨by omega, _, _, _, _, i2, Or.inl ⟨fun h => by omega, rfl, fun w w0 w1 => (i4 4 w (by omega)).trans (hC0 w w0 w1)⟩⟩) (fun q j h1 h2 => i4 q j (by omega))
theorem cx_99_55 {A : Nat → Nat} {h0 : g_H} {d : Nat} {M : xa_M} {post : Option xa_V → xa_M → Prop} {l1 u1 l2 u2 l3 u3 x1 x2 x3 : Int} {F : Int → Int} {N : xa_M} (hT : tk_M N) (hR : tk_R M N) (hB : tk_B 55 M N) (hFF : 1 ≤ x1 ∧ x1 ≤ 9 → tk_Y N x1 F) (hC0 : ∀ w : Int, 0 ≤ w → w < 14 → M 4 w = N 63 w) (k : ∀ (lo hi r : Int) (M1 : xa_M), tk_T N x1 x2 x3 r (M1 4) → (∀ q j, ¬ q = 4 → ¬ (15 ≤ q ∧ q ≤ 27) → M1 q j = M q j) → post (some (0, 0, lo, hi, r)) M1) : xa_C (xl_I true) A h0 (d + 7) 99 [(2, 0, 0, 0, 0), (0, 0, l1, u1, x1), (0, 0, l2, u2, x2), (0, 0, l3, u3, x3)] M post := by
  refine xa_C_arg [(2, 0, 0, 0, 0), (0, 0, (-2147483648), 2147483647, x1), (0, 0, (-2147483648), 2147483647, x2), (0, 0, (-2147483648), 2147483647, x3)] (xa_svR (xa_svI (fun _ _ _ _ => by omega) (xa_svI (fun _ _ _ _ => by omega) (xa_svI (fun _ _ _ _ => by omega) xa_sv0)))) ?_
  refine xa_meth (Q0 := (5, 2, false, 0, 0, 11)) (by decide +kernel) ⟨rfl, rfl⟩ (full := s_c_99) rfl rfl ?_
  intro hM hv Q hgo
  have loop : ∀ (Ma : xa_M), tk_S N x1 x2 0 (Ma 15 10) (Ma 21) (Ma 22) → 0 ≤ x3 → tk_Z N x1 x2 Ma → (∀ w : Int, 0 ≤ w → w < 14 → Ma 4 w = N 63 w) → (∀ M1 : xa_M, fa_K Ma M1 → ∀ (q : Nat) (j : Int), ¬ q = 4 → ¬ (15 ≤ q ∧ q ≤ 27) → M1 q j = M q j) → ∀ (f : Nat) (i : Int) (M1 : xa_M), 0 ≤ i ∧ i ≤ 200000 → fa_K Ma M1 → tk_st N x2 Ma M1 i → i ≤ x3 → 200000 - i < (f : Int) → Q 18 [(4, (0, 0, 0, 200000, i)), (3, (0, 0, (-2147483648), 2147483647, x3)), (2, (0, 0, (-2147483648), 2147483647, x2)), (1, (0, 0, (-2147483648), 2147483647, x1)), (0, (2, 0, 0, 0, 0))] [] M1 := by
    intro Ma hS hx3 hZ hC4 hfr f
    induction f with
    | zero => intro i M1 i1 hK hst hle hms; omega
    | succ f ih =>
      intro i M1 i1 hK hst hle hms
      refine hgo.1 21 [18] 18 _ _ _ ?_
      refine And.intro ?_ ?_
      · intro (c1 : 200000 ≤ i)
        show post (some (0, 0, 0, 0, 0)) M1
        exact k _ _ 0 M1 (tk_fit0 hS hx3 hC4 hK rfl (Int.le_trans (tk_all hT hZ hst (by omega)) (by omega))) (fun q j h1 h2 => hfr M1 hK q j h1 h2)
      · intro (c1 : i < 200000)
        show xa_C (xl_I _) A h0 _ 91 [(2, 15, 0, 0, 0)] M1 _
        refine cx_91t hT hZ hK hst ?_ ?_
        · intro M101 (i2 : fa_K Ma M101) (i3 : tk_in N (Ma 15 10) (Ma 21) (M101 25)) (i4 : tk_F N (Ma 15 10) (Ma 21) (Ma 22) x2 (tk_rk N (Ma 15 10) (Ma 21) (M101 25))) (i5 : fs_c (tk_F N (Ma 15 10) (Ma 21) (Ma 22) x2) (tk_rk N (Ma 15 10) (Ma 21) (M101 25)).toNat = i) (i6 : tk_st N x2 Ma M101 (i + 1))
          refine And.intro ?_ ?_
          · intro (c7 : 1 = 0)
            exfalso
            omega
          · intro (c7 : ¬ 1 = 0)
            refine And.intro ?_ ?_
            · intro (c8 : ¬ i = x3)
              show Q 18 [(4, (0, 0, 1, 200001, i + 1)), (3, (0, 0, (-2147483648), 2147483647, x3)), (2, (0, 0, (-2147483648), 2147483647, x2)), (1, (0, 0, (-2147483648), 2147483647, x1)), (0, (2, 0, 0, 0, 0))] [] M101
              refine hgo.2.1 18 _ [(4, (0, 0, 0, 200000, i + 1)), (3, (0, 0, (-2147483648), 2147483647, x3)), (2, (0, 0, (-2147483648), 2147483647, x2)), (1, (0, 0, (-2147483648), 2147483647, x1)), (0, (2, 0, 0, 0, 0))] _ _ (xa_subI rfl rfl (fun _ _ _ _ => by omega) (xa_subI rfl rfl (fun _ _ _ _ => by omega) (xa_subI rfl rfl (fun _ _ _ _ => by omega) (xa_subI rfl rfl (fun _ _ _ _ => by omega) (xa_subR rfl (xa_sub0)))))) ?_
              exact ih (i + 1) M101 (by omega) i2 i6 (by omega) (by omega)
            · intro (c8 : i = x3)
              show xa_C (xl_I _) A h0 _ 100 [(2, 15, 0, 0, 0), (2, 1, 0, 0, 0)] M101 _
              refine cx_100t (tk_c1 hT hZ i2) (tk_c2 hT hZ i2) (tk_c3 hT hZ i2) ?_
              intro M102 (i9 : ∀ (q : Nat) (j : Int), ¬ q = 4 → M102 q j = M101 q j) (i10 : ∀ j : Int, 0 ≤ j → j < M101 15 10 → M102 4 (M101 21 j) = M101 25 j) (i11 : ∀ w : Int, (∀ j : Int, 0 ≤ j → j < M101 15 10 → ¬ M101 21 j = w) → M102 4 w = M101 4 w)
              show post (some (0, 0, 1, 1, 1)) M102
              exact k _ _ 1 _ (tk_fit1 (C := M) hS hx3 hC4 i2 i3 i4 (i5.trans c8) i10 i11) (fun q j h1 h2 => (i9 q j h1).trans (hfr _ i2 q j h1 h2))
        · intro M101 (i12 : fa_K Ma M101) (i13 : fs_c (tk_F N (Ma 15 10) (Ma 21) (Ma 22) x2) (tk_pr N (Ma 15 10) (Ma 21)).toNat = i)
          refine And.intro ?_ ?_
          · intro (c14 : 0 = 0)
            show post (some (0, 0, 0, 0, 0)) M101
            exact k _ _ 0 _ (tk_fit0 hS hx3 hC4 i12 i13 (by omega)) (fun q j h1 h2 => hfr _ i12 q j h1 h2)
          · intro (c14 : ¬ 0 = 0)
            exfalso
            omega
  refine hgo.1 14 [18] 0 _ _ _ ?_
  refine And.intro ?_ ?_
  · intro (c1 : x3 < 0)
    show post (some (0, 0, 0, 0, 0)) M
    exact k _ _ 0 M (Or.inl ⟨by omega, rfl, hC0⟩) (fun _ _ _ _ => rfl)
  · intro (c1 : 0 ≤ x3)
    show xa_C (xl_I _) A h0 _ 86 [(2, 0, 0, 0, 0), (0, 0, (-2147483648), 2147483647, x1), (0, 0, (-2147483648), 2147483647, x2)] M _
    refine cx_86_55 hT hR hB hFF ?_
    intro r104 M103 (i2 : tk_S N x1 x2 r104 (M103 15 10) (M103 21) (M103 22)) (i3 : r104 = 0 → tk_A N x2 M103) (i4 : ∀ q j, ¬ (15 ≤ q ∧ q ≤ 24) → M103 q j = M q j)
    refine And.intro ?_ ?_
    · intro (c5 : r104 = 0)
      show Q 18 [(4, (0, 0, 0, 0, 0)), (0, (2, 0, 0, 0, 0)), (1, (0, 0, (-2147483648), 2147483647, x1)), (2, (0, 0, (-2147483648), 2147483647, x2)), (3, (0, 0, (-2147483648), 2147483647, x3))] [] M103
      have er : r104 = 0 := by omega
      rw [er] at i2
      obtain ⟨z1, -, z3, z4⟩ := tk_S_L i2
      have hA := i3 er
      refine hgo.2.1 18 _ [(4, (0, 0, 0, 200000, 0)), (3, (0, 0, (-2147483648), 2147483647, x3)), (2, (0, 0, (-2147483648), 2147483647, x2)), (1, (0, 0, (-2147483648), 2147483647, x1)), (0, (2, 0, 0, 0, 0))] _ _ (xa_subI rfl rfl (fun _ _ _ _ => by omega) (xa_subI rfl rfl (fun _ _ _ _ => by omega) (xa_subI rfl rfl (fun _ _ _ _ => by omega) (xa_subI rfl rfl (fun _ _ _ _ => by omega) (xa_subR rfl (xa_sub0)))))) ?_
      exact loop M103 i2 (by omega) ⟨z1, z3, z4, hA⟩ (fun w w0 w1 => (i4 4 w (by omega)).trans (hC0 w w0 w1)) (fun M1 hK q j h1 h2 => (hK q j (by omega) (by omega) (by omega) (by omega)).trans (i4 q j (by omega))) 200001 0 M103 (by omega) fa_Kr (tk_st0 hA) (by omega) (by omega)
    · intro (c5 : ¬ r104 = 0)
      show post (some (0, 0, 0, 0, 0)) M103
      exact k _ _ 0 _ (Or.inr ⟨by omega, _, _, _, _, i2, Or.inl ⟨fun h => by omega, rfl, fun w w0 w1 => (i4 4 w (by omega)).trans (hC0 w w0 w1)⟩⟩) (fun q j h1 h2 => i4 q j (by omega))
