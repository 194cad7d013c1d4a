set_option maxRecDepth 20000
theorem rw_66 {b : Bool} {A : Nat → Nat} {h0 : g_H} {d : Nat} {M : xa_M} {post : Option xa_V → xa_M → Prop} {l1 u1 l2 u2 x1 x2 : Int} {N0 : xa_M} (hM0 : tu_M N0) (hC0 : tu_C M N0) (k : ∀ (lo hi v : Int) (M1 : xa_M), tw_66 N0 x1 x2 v → (∀ (q : Nat) (j : Int), ¬ (12 ≤ q ∧ q ≤ 14) → ¬ (q = 48 ∨ q = 49) → M1 q j = M q j) → rz_c ((v : Int) = 0) (M 48 1) (M1 48 1) (2) → rw_k (v = 0) (M 48 1) (M 49) (M1 48 1) (M1 49) 2 (fun V => rw_t N0 x1 (fun _ => 0 ≤ x2) (fun N => rw_v [((((N 75 x1).natAbs : Int) * x2).tmod (N 76 x1)).tdiv (Int.gcd ((((N 75 x1).natAbs : Int) * x2).tmod (N 76 x1)) (N 76 x1) : Int), (N 76 x1).tdiv (Int.gcd ((((N 75 x1).natAbs : Int) * x2).tmod (N 76 x1)) (N 76 x1) : Int)]) V) → post (some (0, 0, lo, hi, v)) M1) : xa_C (xl_I b) A h0 (d + 9) 66 [(2, 0, 0, 0, 0), (0, 0, l1, u1, x1), (0, 0, l2, u2, x2)] M post := by
  refine xa_C_arg [(2, 0, 0, 0, 0), (0, 0, (-2147483648), 2147483647, x1), (0, 0, (-2147483648), 2147483647, x2)] (xa_svR (xa_svI (fun _ _ _ _ => by omega) (xa_svI (fun _ _ _ _ => by omega) (xa_sv0)))) ?_
  refine xa_meth (Q0 := (6, 1, false, 0, 0, 11)) (by decide +kernel) ⟨rfl, rfl⟩ (full := s_c_66) rfl rfl ?_
  intro hM hv Q hgo
  refine hgo.1 37 [] 0 _ _ _ ?_
  show xa_C (xl_I b) A h0 _ 67 [(0, 0, (-2147483648), 2147483647, x2)] M _
  refine cx_67 ?_ ?_ ?_
  · intro (i1 : x2 < 0)
    show post (some (0, 0, (-1), (-1), (-1))) M
    exact k _ _ _ _ (Or.inl ⟨by omega, rfl⟩) (fun _ _ _ _ => rfl) (by unfold rz_c; omega) (rw_no (by show ¬ ((-1) : Int) = 0; omega) (by omega) (fun _ _ _ => rfl))
  · intro (i2 : 0 ≤ x2) (i3 : 2000 < x2)
    show post (some (0, 0, (-1), (-1), (-1))) M
    exact k _ _ _ _ (Or.inl ⟨by omega, rfl⟩) (fun _ _ _ _ => rfl) (by unfold rz_c; omega) (rw_no (by show ¬ ((-1) : Int) = 0; omega) (by omega) (fun _ _ _ => rfl))
  · intro (i4 : 0 ≤ x2) (i5 : x2 ≤ 2000)
    show xa_C (xl_I b) A h0 _ 68 [(2, 0, 0, 0, 0), (0, 0, (-2147483648), 2147483647, x1)] M _
    refine cx_68t hM0 hC0 ?_
    intro v101 M102 (i6 : tu_H N0 x1 v101 M102) (i7 : tu_G M M102)
    refine And.intro ?_ ?_
    · intro (c8 : v101 = 0)
      rw [c8] at i6
      obtain ⟨hs0, nL⟩ := tu_H0 i6
      obtain ⟨ax, N9, t1, t2, t3, t4, t5, t6, t7⟩ := tu_S0 hs0
      show xa_C (xl_I b) A h0 _ 51 [(2, 12, 0, 0, 0), (0, 0, (-2147483648), 2147483647, x1)] M102 _
      refine cx_51_12 (show 0 ≤ x1 ∧ x1 < 10 by omega) ?_
      show xa_C (xl_I b) A h0 _ 59 [(2, 48, 0, 0, 0)] M102 _
      refine cx_59_48 ?_
      show xa_C (xl_I b) A h0 _ 54 [(2, 12, 0, 0, 0), (0, 0, (-2147483648), 2147483647, x1)] (xa_up M102 48 1 0) _
      refine cx_54_12 (show 0 ≤ x1 ∧ x1 < 10 by omega) ?_
      show xa_C (xl_I b) A h0 _ 56 [(1, 0, (-9223372036854775808), 9223372036854775807, M102 13 x1)] (xa_up M102 48 1 0) _
      refine ct_abs (lo := 0) (hi := 1000000000000000) (show -9223372036854775808 < (M102 13 x1) by omega) (fun a103 h104 => ⟨by omega, ?_⟩)
      show xa_C (xl_I b) A h0 _ 70 [(1, 0, (-9223372036854775808), 9223372036854775807, xa_w64 (a103 * x2)), (1, 0, (-9223372036854775808), 9223372036854775807, M102 14 x1)] (xa_up M102 48 1 0) _
      refine rw_70 (show 1 ≤ (M102 14 x1) by omega) ?_
      intro r105 (v105 : r105 = (xa_w64 (a103 * x2)).tmod (M102 14 x1)) (i9 : -(M102 14 x1) < r105 ∧ r105 < (M102 14 x1))
      show xa_C (xl_I b) A h0 _ 71 [(2, 48, 0, 0, 0), (1, 0, (-9223372036854775808), 9223372036854775807, r105), (1, 0, (-9223372036854775808), 9223372036854775807, M102 14 x1)] (xa_up M102 48 1 0) _
      refine rw_71 (l := []) (by show (0 : Int) ≤ 0 ∧ 0 < 15; omega) xa_up_eq rw_T0 (by omega) (by omega) ?_
      intro M106 (i10 : ∀ (q : Nat) (j : Int), ¬ (q = 48 ∨ q = 49) → M106 q j = (xa_up M102 48 1 0) q j) (i11 : (0 : Int) ≤ M106 48 1) (zM106 : M106 48 1 = 0 + 2) (tM106 : rw_T (M106 49) [(r105).tdiv (Int.gcd (r105) (M102 14 x1) : Int), (M102 14 x1).tdiv (Int.gcd (r105) (M102 14 x1) : Int)])
      show post (some (0, 0, 0, 0, 0)) M106
      exact k _ _ _ _ (Or.inr ⟨by omega, tw_H i6⟩) (fun q j h1 h2 => (i10 q j h2).trans ((xa_up_ne (by omega)).trans (i7 q j h1))) (by have zi7 := i7 48 1 (by omega); unfold rz_c; omega) (rw_yes (by have zi7 := i7 48 1 (by omega); show (0 : Int) = 0; omega) (by have zi7 := i7 48 1 (by omega); omega) (V := rw_v [((((N9 75 x1).natAbs : Int) * x2).tmod (N9 76 x1)).tdiv (Int.gcd ((((N9 75 x1).natAbs : Int) * x2).tmod (N9 76 x1)) (N9 76 x1) : Int), (N9 76 x1).tdiv (Int.gcd ((((N9 75 x1).natAbs : Int) * x2).tmod (N9 76 x1)) (N9 76 x1) : Int)]) (fun i i0 i1 => by have q := tM106 i i0 i1; rw [v105, tw_w2 (x := a103) (u := x2) (by omega) (by omega), h104, t4.1, t4.2] at q; exact q) ⟨ax, N9, ⟨N0, xm_cor_r, t1⟩, t3, i4, rfl⟩)
    · intro (c8 : ¬ v101 = 0)
      show post (some (0, 0, (-5), 0, v101)) M102
      exact k _ _ _ _ (Or.inr ⟨by omega, tw_H i6⟩) (fun q j h1 h2 => i7 q j h1) (by have zi7 := i7 48 1 (by omega); have rr := rz_Hle i6; unfold rz_c; omega) (rw_no (by have zi7 := i7 48 1 (by omega); have rr := rz_Hle i6; show ¬ (v101 : Int) = 0; omega) (by have zi7 := i7 48 1 (by omega); have rr := rz_Hle i6; omega) (fun i _ _ => i7 49 i (by omega)))
theorem rw_m66 {A : Nat → Nat} {h0 : g_H} {d : Nat} {M : xa_M} {post : Option xa_V → xa_M → Prop} {l1 u1 l2 u2 : Int} {a b : Int} (hI : xm_Inv M) (k : ∀ (o : Option xa_V) (M1 : xa_M), (∃ lo hi n, o = some (0, 0, lo, hi, n) ∧ tw_66 M a b n ∧ rz_c ((n : Int) = 0) (M 60 20) (M1 60 20) (2) ∧ rw_k (n = 0) (M 60 20) (M 74) (M1 60 20) (M1 74) 2 (fun V => rw_t M a (fun _ => True) (fun N => rw_v [((((N 75 a).natAbs : Int) * b) % (N 76 a)).tdiv (Int.gcd ((((N 75 a).natAbs : Int) * b) % (N 76 a)) (N 76 a) : Int), (N 76 a).tdiv (Int.gcd ((((N 75 a).natAbs : Int) * b) % (N 76 a)) (N 76 a) : Int)]) V)) → xm_cor M M1 → post o M1) : xa_C xm_I A h0 (d + 7) 272 [(2, 60, 0, 0, 0), (0, 0, l1, u1, a), (0, 0, l2, u2, b)] M post := by
  refine xa_C_arg [(2, 60, 0, 0, 0), (0, 0, (-2147483648), 2147483647, a), (0, 0, (-2147483648), 2147483647, b)] (xa_svR (xa_svI (fun _ _ _ _ => by omega) (xa_svI (fun _ _ _ _ => by omega) xa_sv0))) ?_
  refine xa_meth (Q0 := (4, 1, false, 0, 0, 12)) (by decide +kernel) ⟨rfl, rfl⟩ (full := s_c_272) rfl rfl ?_
  intro hM hv Q hgo
  refine hgo.1 17 [25] 0 _ _ _ ?_
  show xa_C xm_I A h0 _ 215 [(0, 0, (-2147483648), 2147483647, a)] (xa_up M 60 21 0) _
  refine ct_isAxle ?_ ?_
  · intro (i1 : 0 ≤ a ∧ a ≤ 9)
    show xa_C xm_I A h0 _ 214 [(0, 0, (-2147483648), 2147483647, b), (0, 0, 0, 0, 0), (0, 0, 2000, 2000, 2000)] (xa_up M 60 21 0) _
    refine ct_in ?_ ?_
    · intro (i2 : 0 ≤ b ∧ b ≤ 2000)
      show Q 25 [(0, (2, 60, 0, 0, 0)), (1, (0, 0, (-2147483648), 2147483647, a)), (2, (0, 0, (-2147483648), 2147483647, b))] [] (xa_up M 60 21 0)
      refine hgo.2.1 25 _ [(0, (2, 60, 0, 0, 0)), (1, (0, 0, 0, 9, a)), (2, (0, 0, 0, 2000, b))] _ _ (xa_subR rfl (xa_subI rfl rfl (fun _ _ _ _ => by omega) (xa_subI rfl rfl (fun _ _ _ _ => by omega) xa_sub0))) ?_
      refine hgo.1 34 [] 25 _ _ _ ?_
      show xa_C xm_I A h0 _ 273 [(2, 60, 0, 0, 0), (0, 0, 0, 9, a)] (xa_up M 60 21 0) _
      refine rz_fx (j := 273) (by decide) (xa_C_mok (xw_ct_fairStateF (xm_Inv_cor (xm_cor_f (by omega) xm_cor_r) hI) (by omega) (by omega) (fun v103 w103 M103 hc103 hT103 hF103 hw103 hv103 hs103 hM103 => ?_)))
      intro (zM103 : M103 60 20 = M 60 20)
      refine And.intro ?_ ?_
      · intro (c104 : 0 ≤ v103)
        show xa_C xm_I A h0 _ 56 [(1, 0, (-1000000000000000), 1000000000000000, M103 75 a)] (xa_up M103 60 20 0) _
        refine ct_absb 1000000000000000 (by decide) (by decide) (by decide) (fun a105 ea105 => ?_)
        refine And.intro (show 0 < (M103 76 a) by omega) ?_
        show xa_C xm_I A h0 _ 230 [(2, 60, 0, 0, 0), (1, 0, 0, 999999999999999, (a105 * b) % (M103 76 a)), (1, 0, 0, 1000000000000000, M103 76 a)] (xa_up M103 60 20 0) _
        refine ct_tellPart (n := 0) (by first | rfl | (simp [xa_up]; done)) (by decide) (by decide) (by decide) (by omega) (fun g106 eg106 pg106 qg106 => ?_)
        show post (some (0, 0, 0, 0, 0)) (xa_up (xa_up (xa_up (xa_up (xa_up M103 60 20 0) 74 0 (((a105 * b) % (M103 76 a)).tdiv g106)) 60 20 1) 74 1 ((M103 76 a).tdiv g106)) 60 20 2)
        exact k _ _ ⟨_, _, _, rfl, Or.inr ⟨i2, Or.inr ⟨i1, w103, M103, ⟨_, xm_cor_f (by omega) xm_cor_r, hF103⟩, tw_s4 (v := v103) hs103 (by omega)⟩⟩, by show rz_c ((0 : Int) = 0) (M 60 20) (2) (2); unfold rz_c; omega, by exact rw_yes (by show (0 : Int) = 0; omega) xa_up_eq (V := rw_v [((((M103 75 a).natAbs : Int) * b) % (M103 76 a)).tdiv (Int.gcd ((((M103 75 a).natAbs : Int) * b) % (M103 76 a)) (M103 76 a) : Int), (M103 76 a).tdiv (Int.gcd ((((M103 75 a).natAbs : Int) * b) % (M103 76 a)) (M103 76 a) : Int)]) (fun i i0 i1 => by rw [← ea105, ← eg106]; rcases (show i = 0 ∨ i = 1 by omega) with rfl | rfl <;> first | rfl | (simp [xa_up, rw_v]; done)) (by have e9 : w103 = 0 := (by omega); subst e9; exact ⟨i1, M103, ⟨_, xm_cor_f (by omega) xm_cor_r, hF103⟩, by omega, trivial, rfl⟩)⟩ (xm_cor_f (by omega) (xm_cor_a rfl (xm_cor_f (by omega) (xm_cor_a rfl (xm_cor_f (by omega) (xm_cor_t (xm_cor_f (by omega) xm_cor_r) (xw_to hc103)))))))
      · intro (c104 : v103 < 0)
        show post (some (0, 0, (-5), 0, v103)) M103
        exact k _ _ ⟨_, _, _, rfl, Or.inr ⟨i2, Or.inr ⟨i1, w103, M103, ⟨_, xm_cor_f (by omega) xm_cor_r, hF103⟩, tw_s4 hs103 rfl⟩⟩, by show rz_c ((v103 : Int) = 0) (M 60 20) (M103 60 20) (2); unfold rz_c; omega, by exact rw_no (by show ¬ (v103 : Int) = 0; omega) (by show M103 60 20 = M 60 20; omega) (fun i i0 i1 => ((xw_74 hc103 i0 (by have b20 := xm_f20 hM; omega)).trans (xa_up_ne (by omega))))⟩ (xm_cor_t (xm_cor_f (by omega) xm_cor_r) (xw_to hc103))
    · intro (i2 : ¬ (0 ≤ b ∧ b ≤ 2000))
      show post (some (0, 0, (-1), (-1), (-1))) (xa_up M 60 21 0)
      exact k _ _ ⟨_, _, _, rfl, Or.inl ⟨i2, rfl⟩, by show rz_c (((-1) : Int) = 0) (M 60 20) (M 60 20) (2); unfold rz_c; omega, by exact rw_no (by show ¬ ((-1) : Int) = 0; omega) (by show M 60 20 = M 60 20; omega) (fun i _ _ => xa_up_ne (by omega))⟩ (xm_cor_f (by omega) xm_cor_r)
  · intro (i1 : ¬ (0 ≤ a ∧ a ≤ 9))
    show post (some (0, 0, (-1), (-1), (-1))) (xa_up M 60 21 0)
    exact k _ _ ⟨_, _, _, rfl, tw_Pn i1, by show rz_c (((-1) : Int) = 0) (M 60 20) (M 60 20) (2); unfold rz_c; omega, by exact rw_no (by show ¬ ((-1) : Int) = 0; omega) (by show M 60 20 = M 60 20; omega) (fun i _ _ => xa_up_ne (by omega))⟩ (xm_cor_f (by omega) xm_cor_r)
theorem rw_p66 (A : Nat → Nat) (cmp : Bool) : iv_pair (rw_J A) A 66 272 [0, 0] cmp false := rw_armV (fun W b h as M hJ hM hInv hs hR hz => by
  obtain ⟨m1, ys, rfl, -, hs⟩ := iv_spc hs
  obtain ⟨m2, ys, rfl, -, hs⟩ := iv_spc hs
  obtain rfl := iv_sp0 hs
  have b0 := xm_f0 (xa_H_Mok hM)
  have b6 := xm_f6 (xa_H_Mok hM)
  have r1 : iv_num h 1 9 = M 60 0 := hR.1.1
  have r2 : iv_num h 1 10 = M 60 6 := hR.1.2.1
  have r3 : ∀ i, 0 ≤ i → i < 14 → iv_num h 2 i = M 61 i ∧ iv_num h 3 i = M 62 i ∧ iv_num h 5 i = M 64 i ∧ iv_num h 6 i = M 65 i ∧ iv_num h 4 i = M 63 i := hR.1.2.2.1
  have r4 : ∀ i, 0 ≤ i → i < 16 → iv_num h 7 i = M 66 i ∧ iv_num h 8 i = M 67 i := hR.1.2.2.2
  have hS := hR.2
  have hMk := xa_H_Mok hM
  have hT := tu_M_of hMk hInv
  have hr := xm_rng_I hMk hInv
  have hC0 : tu_C (iv_num h) M := ⟨r2, r4, fun w w0 w1 => ⟨(r3 w w0 w1).2.2.1, (r3 w w0 w1).2.2.2.2⟩⟩
  have hc := rw_66 (b := b) (A := A) (h0 := h) (d := 51) (M := iv_num h) (N0 := M) (l1 := -2147483648) (u1 := 2147483647) (l2 := -2147483648) (u2 := 2147483647) (x1 := m1.toInt) (x2 := m2.toInt) (post := fun o M1 => ∃ lo hi n, o = some (0, 0, lo, hi, n) ∧ ((tw_66 M m1.toInt m2.toInt n ∧ ∀ (q : Nat) (j : Int), ¬ (12 ≤ q ∧ q ≤ 14) → ¬ (q = 48 ∨ q = 49) → M1 q j = iv_num h q j) ∧ rw_k (n = 0) (iv_num h 48 1) (iv_num h 49) (M1 48 1) (M1 49) 2 (fun V => rw_t M m1.toInt (fun _ => 0 ≤ m2.toInt) (fun N => rw_v [((((N 75 m1.toInt).natAbs : Int) * m2.toInt).tmod (N 76 m1.toInt)).tdiv (Int.gcd ((((N 75 m1.toInt).natAbs : Int) * m2.toInt).tmod (N 76 m1.toInt)) (N 76 m1.toInt) : Int), (N 76 m1.toInt).tdiv (Int.gcd ((((N 75 m1.toInt).natAbs : Int) * m2.toInt).tmod (N 76 m1.toInt)) (N 76 m1.toInt) : Int)]) V))) hT hC0 (fun lo hi n M1 x1 x2 _ x3 => ⟨lo, hi, n, rfl, ⟨x1, x2⟩, x3⟩)
  have hm := fun (h1 : g_H) => rw_m66 (A := A) (h0 := h1) (d := 53) (M := M) (l1 := -2147483648) (u1 := 2147483647) (l2 := -2147483648) (u2 := 2147483647) (a := m1.toInt) (b := m2.toInt) (post := fun o M2 => (∃ lo hi n, o = some (0, 0, lo, hi, n) ∧ ((tw_66 M m1.toInt m2.toInt n ∧ xm_cor M M2) ∧ rw_k (n = 0) (M 60 20) (M 74) (M2 60 20) (M2 74) 2 (fun V => rw_t M m1.toInt (fun _ => True) (fun N => rw_v [((((N 75 m1.toInt).natAbs : Int) * m2.toInt) % (N 76 m1.toInt)).tdiv (Int.gcd ((((N 75 m1.toInt).natAbs : Int) * m2.toInt) % (N 76 m1.toInt)) (N 76 m1.toInt) : Int), (N 76 m1.toInt).tdiv (Int.gcd ((((N 75 m1.toInt).natAbs : Int) * m2.toInt) % (N 76 m1.toInt)) (N 76 m1.toInt) : Int)]) V))) ∧ xm_Inv M2) hInv (fun o M2 x1 x2 => by
    obtain ⟨lo, hi, n, rfl, x1, -, x3⟩ := x1
    exact ⟨⟨lo, hi, n, rfl, ⟨x1, x2⟩, x3⟩, xm_Inv_cor x2 hInv⟩)
  refine ⟨[(2, 0, 0, 0, 0), (0, 0, -2147483648, 2147483647, m1.toInt), (0, 0, -2147483648, 2147483647, m2.toInt)], [(2, 60, 0, 0, 0), (0, 0, -2147483648, 2147483647, m1.toInt), (0, 0, -2147483648, 2147483647, m2.toInt)], _, _, ⟨rfl, iv_i m1, iv_i m2, trivial⟩, ⟨rfl, iv_i m1, iv_i m2, trivial⟩, fun n n' M1 M2 g1 g2 => by
    obtain ⟨h1, z1⟩ := g1
    obtain ⟨h2, z2⟩ := g2
    have en : n = n' := tw_66_one hr h1.1 h2.1
    exact ⟨fun _ => en, fun x => h2.2 104 x (by unfold xm_scr; omega), fun x => h2.2 105 x (by unfold xm_scr; omega), tw_lmR hR h1.2 h2.2, rw_k1 z1 z2 (by rw [en]) (fun _ => by decide) (fun V V' hp s1 s2 i _ _ => rw_t1 hr s1 s2 (fun N N' _ e1 e2 g _ i => by rw [e1, e2, Int.tmod_eq_emod_of_nonneg (Int.mul_nonneg (Int.natCast_nonneg _) g)]) i) hz⟩, hc, hm⟩)
theorem rw_63_50 {A : Nat → Nat} {h0 : g_H} {d : Nat} {M : xa_M} {post : Option xa_V → xa_M → Prop} {l1 u1 x1 : Int} {N0 : xa_M} (hM0 : tu_M N0) (hC0 : tu_C M N0) (hB : tk_B 50 M N0) (k : ∀ (lo hi v : Int) (M1 : xa_M), tw_A N0 x1 v (tw_gC N0 x1) → (∀ (q : Nat) (j : Int), ¬ (12 ≤ q ∧ q ≤ 14) → ¬ (q = 48 ∨ q = 49) → M1 q j = M q j) → rz_c (0 ≤ (v : Int)) (M 48 1) (M1 48 1) (1) → rw_k (0 ≤ v) (M 48 1) (M 49) (M1 48 1) (M1 49) 1 (fun V => rw_t N0 x1 (fun _ => True) (fun N => rw_v [if 0 < N 75 x1 then v else 0]) V) → post (some (0, 0, lo, hi, v)) M1) : xa_C (xl_I false) A h0 (d + 8) 63 [(2, 0, 0, 0, 0), (0, 0, l1, u1, x1)] M post := by
  refine xa_C_arg [(2, 0, 0, 0, 0), (0, 0, (-2147483648), 2147483647, x1)] (xa_svR (xa_svI (fun _ _ _ _ => by omega) (xa_sv0))) ?_
  refine xa_meth (Q0 := (7, 1, false, 0, 0, 11)) (by decide +kernel) ⟨rfl, rfl⟩ (full := s_c_63) rfl rfl ?_
  intro hM hv Q hgo
  have n11 := hB.2.1
  have loop : ∀ (f : Nat) (p x : Int) (M1 : xa_M), 0 ≤ p ∧ p ≤ 8 → p ≤ N0 60 11 → tu_G M M1 → tu_S N0 x1 0 M1 → x = wd_b (fun p => xa_w64 (((M1 13 x1).natAbs : Int) * M1 52 p) = xa_w64 (M1 14 x1 * M1 51 p)) p.toNat → 8 - p < (f : Int) → Q 17 [(4, (0, 0, 0, 8, p)), (3, (0, 0, (-2147483648), 2147483647, x)), (1, (0, 0, (-2147483648), 2147483647, x1)), (0, (2, 0, 0, 0, 0))] [] M1 := by
    intro f
    induction f with
    | zero => intro p x M1 p1 hle hG hs hb hms; clear hb; omega
    | succ f ih =>
      intro p x M1 p1 hle hG hs hb hms
      have e4 : M1 50 4 = N0 60 11 := (hG 50 4 (by omega)).trans hB.1
      obtain ⟨ax, N9, t1, t2, t3, t4, t5, t6, t7⟩ := tu_S0 hs
      refine hgo.1 41 [17] 17 _ _ _ ?_
      refine And.intro ?_ ?_
      · intro (c1 : (M1 50 4) ≤ p)
        show xa_C (xl_I _) A h0 _ 59 [(2, 48, 0, 0, 0)] M1 _
        refine cx_59_48 ?_
        show xa_C (xl_I _) A h0 _ 54 [(2, 12, 0, 0, 0), (0, 0, (-2147483648), 2147483647, x1)] (xa_up M1 48 1 0) _
        refine cx_54_12 (show 0 ≤ x1 ∧ x1 < 10 by omega) ?_
        refine And.intro ?_ ?_
        · intro (c2 : (M1 13 x1) ≤ 0)
          show xa_C (xl_I _) A h0 _ 60 [(2, 48, 0, 0, 0), (1, 0, 0, 0, 0)] (xa_up M1 48 1 0) _
          refine rw_60 (l := []) (by show (0 : Int) ≤ 0 ∧ 0 < 16; omega) xa_up_eq rw_T0 ?_
          intro M101 (i3 : ∀ (q : Nat) (j : Int), ¬ (q = 48 ∨ q = 49) → M101 q j = (xa_up M1 48 1 0) q j) (i4 : (0 : Int) ≤ M101 48 1) (zM101 : M101 48 1 = 0 + 1) (tM101 : rw_T (M101 49) [0])
          show post (some (0, 0, (-2147483648), 2147483647, x)) M101
          exact k _ _ _ _ (tw_gf hB hG hs (by omega) hb (by decide)) (fun q j h1 h2 => (i3 q j h2).trans ((xa_up_ne (by omega)).trans (hG q j h1))) (by have rr : 0 ≤ x := (by rw [hb]; exact rz_wn _ (by omega)); unfold rz_c; omega) (rw_yes (by have rr : 0 ≤ x := (by rw [hb]; exact rz_wn _ (by omega)); show 0 ≤ (x : Int); omega) (by have rr : 0 ≤ x := (by rw [hb]; exact rz_wn _ (by omega)); omega) (V := rw_v [if 0 < N9 75 x1 then x else 0]) (fun i i0 i1 => by rw [if_neg (by omega)]; exact tM101 i i0 i1) ⟨ax, N9, ⟨N0, xm_cor_r, t1⟩, t3, trivial, rfl⟩)
        · intro (c2 : 0 < (M1 13 x1))
          show xa_C (xl_I _) A h0 _ 60 [(2, 48, 0, 0, 0), (1, 0, (-2147483648), 2147483647, x)] (xa_up M1 48 1 0) _
          refine rw_60 (l := []) (by show (0 : Int) ≤ 0 ∧ 0 < 16; omega) xa_up_eq rw_T0 ?_
          intro M102 (i5 : ∀ (q : Nat) (j : Int), ¬ (q = 48 ∨ q = 49) → M102 q j = (xa_up M1 48 1 0) q j) (i6 : (0 : Int) ≤ M102 48 1) (zM102 : M102 48 1 = 0 + 1) (tM102 : rw_T (M102 49) [x])
          show post (some (0, 0, (-2147483648), 2147483647, x)) M102
          exact k _ _ _ _ (tw_gf hB hG hs (by omega) hb (by decide)) (fun q j h1 h2 => (i5 q j h2).trans ((xa_up_ne (by omega)).trans (hG q j h1))) (by have rr : 0 ≤ x := (by rw [hb]; exact rz_wn _ (by omega)); unfold rz_c; omega) (rw_yes (by have rr : 0 ≤ x := (by rw [hb]; exact rz_wn _ (by omega)); show 0 ≤ (x : Int); omega) (by have rr : 0 ≤ x := (by rw [hb]; exact rz_wn _ (by omega)); omega) (V := rw_v [if 0 < N9 75 x1 then x else 0]) (fun i i0 i1 => by rw [if_pos (by omega)]; exact tM102 i i0 i1) ⟨ax, N9, ⟨N0, xm_cor_r, t1⟩, t3, trivial, rfl⟩)
      · intro (c1 : p < (M1 50 4))
        show xa_C (xl_I _) A h0 _ 54 [(2, 12, 0, 0, 0), (0, 0, (-2147483648), 2147483647, x1)] M1 _
        refine cx_54_12 (show 0 ≤ x1 ∧ x1 < 10 by omega) ?_
        show xa_C (xl_I _) A h0 _ 56 [(1, 0, (-9223372036854775808), 9223372036854775807, M1 13 x1)] M1 _
        refine ct_abs (lo := 0) (hi := 1000000000000000) (show -9223372036854775808 < (M1 13 x1) by omega) (fun a103 h104 => ⟨by omega, ?_⟩)
        show xa_C (xl_I _) A h0 _ 64 [(2, 50, 0, 0, 0), (0, 0, 0, 8, p)] M1 _
        refine cx_64_50 (show 0 ≤ p ∧ p < 8 by omega) ?_
        show xa_C (xl_I _) A h0 _ 51 [(2, 12, 0, 0, 0), (0, 0, (-2147483648), 2147483647, x1)] M1 _
        refine cx_51_12 (show 0 ≤ x1 ∧ x1 < 10 by omega) ?_
        show xa_C (xl_I _) A h0 _ 65 [(2, 50, 0, 0, 0), (0, 0, 0, 8, p)] M1 _
        refine cx_65_50 (show 0 ≤ p ∧ p < 8 by omega) ?_
        refine And.intro ?_ ?_
        · intro (c7 : ¬ (xa_w64 (a103 * (M1 52 p))) = (xa_w64 ((M1 14 x1) * (M1 51 p))))
          show Q 17 [(4, (0, 0, 1, 9, p + 1)), (3, (0, 0, (-2147483648), 2147483647, xa_ib 4 x 0)), (5, (1, 0, (-9223372036854775808), 9223372036854775807, xa_w64 (a103 * (M1 52 p)))), (1, (0, 0, (-2147483648), 2147483647, x1)), (0, (2, 0, 0, 0, 0))] [] M1
          refine hgo.2.1 17 _ [(4, (0, 0, 0, 8, p + 1)), (3, (0, 0, (-2147483648), 2147483647, xa_ib 4 x 0)), (1, (0, 0, (-2147483648), 2147483647, x1)), (0, (2, 0, 0, 0, 0))] _ _ (xa_subI rfl rfl (fun _ _ _ _ => by omega) (xa_subI rfl rfl (fun _ _ _ _ => by omega) (xa_subI rfl rfl (fun _ _ _ _ => by omega) (xa_subR rfl (xa_sub0))))) ?_
          have ea := h104
          exact ih (p + 1) (xa_ib 4 x 0) M1 (by omega) (by omega) hG hs (tw_bz p1.1 (fun h => c7 (by rw [ea]; exact h)) hb) (by omega)
        · intro (c7 : (xa_w64 (a103 * (M1 52 p))) = (xa_w64 ((M1 14 x1) * (M1 51 p))))
          show Q 17 [(4, (0, 0, 1, 9, p + 1)), (3, (0, 0, (-2147483648), 2147483647, xa_ib 4 x (xa_ib 6 1 p))), (5, (1, 0, (-9223372036854775808), 9223372036854775807, xa_w64 (a103 * (M1 52 p)))), (1, (0, 0, (-2147483648), 2147483647, x1)), (0, (2, 0, 0, 0, 0))] [] M1
          refine hgo.2.1 17 _ [(4, (0, 0, 0, 8, p + 1)), (3, (0, 0, (-2147483648), 2147483647, xa_ib 4 x (xa_ib 6 1 p))), (1, (0, 0, (-2147483648), 2147483647, x1)), (0, (2, 0, 0, 0, 0))] _ _ (xa_subI rfl rfl (fun _ _ _ _ => by omega) (xa_subI rfl rfl (fun _ _ _ _ => by omega) (xa_subI rfl rfl (fun _ _ _ _ => by omega) (xa_subR rfl (xa_sub0))))) ?_
          have ea := h104
          exact ih (p + 1) (xa_ib 4 x (xa_ib 6 1 p)) M1 (by omega) (by omega) hG hs (tw_b1 p1.1 (by rw [ea] at c7; exact c7) hb) (by omega)
  refine hgo.1 15 [17] 0 _ _ _ ?_
  show xa_C (xl_I _) A h0 _ 46 [(2, 0, 0, 0, 0), (0, 0, (-2147483648), 2147483647, x1)] M _
  refine cx_46t hM0 hC0 ?_
  intro v105 M106 (i1 : tu_S N0 x1 v105 M106) (i2 : tu_G M M106)
  refine And.intro ?_ ?_
  · intro (c3 : v105 = 0)
    rw [c3] at i1
    have ax := (tu_S0 i1).1
    show Q 17 [(4, (0, 0, 0, 0, 0)), (3, (0, 0, 0, 0, 0)), (2, (0, 0, (-5), 0, v105)), (0, (2, 0, 0, 0, 0)), (1, (0, 0, (-2147483648), 2147483647, x1))] [] M106
    refine hgo.2.1 17 _ [(4, (0, 0, 0, 8, 0)), (3, (0, 0, (-2147483648), 2147483647, 0)), (1, (0, 0, (-2147483648), 2147483647, x1)), (0, (2, 0, 0, 0, 0))] _ _ (xa_subI rfl rfl (fun _ _ _ _ => by omega) (xa_subI rfl rfl (fun _ _ _ _ => by omega) (xa_subI rfl rfl (fun _ _ _ _ => by omega) (xa_subR rfl (xa_sub0))))) ?_
    exact loop 9 0 0 M106 (by omega) (by omega) i2 i1 rfl (by omega)
  · intro (c3 : ¬ v105 = 0)
    show post (some (0, 0, (-5), 0, v105)) M106
    exact k _ _ _ _ (tw_A_of i1 (fun e => absurd e (by omega))) (fun q j h1 h2 => i2 q j h1) (by have zi2 := i2 48 1 (by omega); have rr := rz_Sle i1; unfold rz_c; omega) (rw_no (by have zi2 := i2 48 1 (by omega); have rr := rz_Sle i1; show ¬ 0 ≤ (v105 : Int); omega) (by have zi2 := i2 48 1 (by omega); have rr := rz_Sle i1; omega) (fun i _ _ => i2 49 i (by omega)))
theorem rw_63_55 {A : Nat → Nat} {h0 : g_H} {d : Nat} {M : xa_M} {post : Option xa_V → xa_M → Prop} {l1 u1 x1 : Int} {N0 : xa_M} (hM0 : tu_M N0) (hC0 : tu_C M N0) (hB : tk_B 55 M N0) (k : ∀ (lo hi v : Int) (M1 : xa_M), tw_A N0 x1 v (tw_gC N0 x1) → (∀ (q : Nat) (j : Int), ¬ (12 ≤ q ∧ q ≤ 14) → ¬ (q = 48 ∨ q = 49) → M1 q j = M q j) → rz_c (0 ≤ (v : Int)) (M 48 1) (M1 48 1) (1) → rw_k (0 ≤ v) (M 48 1) (M 49) (M1 48 1) (M1 49) 1 (fun V => rw_t N0 x1 (fun _ => True) (fun N => rw_v [if 0 < N 75 x1 then v else 0]) V) → post (some (0, 0, lo, hi, v)) M1) : xa_C (xl_I true) A h0 (d + 8) 63 [(2, 0, 0, 0, 0), (0, 0, l1, u1, x1)] M post := by
  refine xa_C_arg [(2, 0, 0, 0, 0), (0, 0, (-2147483648), 2147483647, x1)] (xa_svR (xa_svI (fun _ _ _ _ => by omega) (xa_sv0))) ?_
  refine xa_meth (Q0 := (7, 1, false, 0, 0, 11)) (by decide +kernel) ⟨rfl, rfl⟩ (full := s_c_63) rfl rfl ?_
  intro hM hv Q hgo
  have n11 := hB.2.1
  have loop : ∀ (f : Nat) (p x : Int) (M1 : xa_M), 0 ≤ p ∧ p ≤ 8 → p ≤ N0 60 11 → tu_G M M1 → tu_S N0 x1 0 M1 → x = wd_b (fun p => xa_w64 (((M1 13 x1).natAbs : Int) * M1 57 p) = xa_w64 (M1 14 x1 * M1 56 p)) p.toNat → 8 - p < (f : Int) → Q 17 [(4, (0, 0, 0, 8, p)), (3, (0, 0, (-2147483648), 2147483647, x)), (1, (0, 0, (-2147483648), 2147483647, x1)), (0, (2, 0, 0, 0, 0))] [] M1 := by
    intro f
    induction f with
    | zero => intro p x M1 p1 hle hG hs hb hms; clear hb; omega
    | succ f ih =>
      intro p x M1 p1 hle hG hs hb hms
      have e4 : M1 55 4 = N0 60 11 := (hG 55 4 (by omega)).trans hB.1
      obtain ⟨ax, N9, t1, t2, t3, t4, t5, t6, t7⟩ := tu_S0 hs
      refine hgo.1 41 [17] 17 _ _ _ ?_
      refine And.intro ?_ ?_
      · intro (c1 : (M1 55 4) ≤ p)
        show xa_C (xl_I _) A h0 _ 59 [(2, 48, 0, 0, 0)] M1 _
        refine cx_59_48 ?_
        show xa_C (xl_I _) A h0 _ 54 [(2, 12, 0, 0, 0), (0, 0, (-2147483648), 2147483647, x1)] (xa_up M1 48 1 0) _
        refine cx_54_12 (show 0 ≤ x1 ∧ x1 < 10 by omega) ?_
        refine And.intro ?_ ?_
        · intro (c2 : (M1 13 x1) ≤ 0)
          show xa_C (xl_I _) A h0 _ 60 [(2, 48, 0, 0, 0), (1, 0, 0, 0, 0)] (xa_up M1 48 1 0) _
          refine rw_60 (l := []) (by show (0 : Int) ≤ 0 ∧ 0 < 16; omega) xa_up_eq rw_T0 ?_
          intro M101 (i3 : ∀ (q : Nat) (j : Int), ¬ (q = 48 ∨ q = 49) → M101 q j = (xa_up M1 48 1 0) q j) (i4 : (0 : Int) ≤ M101 48 1) (zM101 : M101 48 1 = 0 + 1) (tM101 : rw_T (M101 49) [0])
          show post (some (0, 0, (-2147483648), 2147483647, x)) M101
          exact k _ _ _ _ (tw_gf hB hG hs (by omega) hb (by decide)) (fun q j h1 h2 => (i3 q j h2).trans ((xa_up_ne (by omega)).trans (hG q j h1))) (by have rr : 0 ≤ x := (by rw [hb]; exact rz_wn _ (by omega)); unfold rz_c; omega) (rw_yes (by have rr : 0 ≤ x := (by rw [hb]; exact rz_wn _ (by omega)); show 0 ≤ (x : Int); omega) (by have rr : 0 ≤ x := (by rw [hb]; exact rz_wn _ (by omega)); omega) (V := rw_v [if 0 < N9 75 x1 then x else 0]) (fun i i0 i1 => by rw [if_neg (by omega)]; exact tM101 i i0 i1) ⟨ax, N9, ⟨N0, xm_cor_r, t1⟩, t3, trivial, rfl⟩)
        · intro (c2 : 0 < (M1 13 x1))
          show xa_C (xl_I _) A h0 _ 60 [(2, 48, 0, 0, 0), (1, 0, (-2147483648), 2147483647, x)] (xa_up M1 48 1 0) _
          refine rw_60 (l := []) (by show (0 : Int) ≤ 0 ∧ 0 < 16; omega) xa_up_eq rw_T0 ?_
          intro M102 (i5 : ∀ (q : Nat) (j : Int), ¬ (q = 48 ∨ q = 49) → M102 q j = (xa_up M1 48 1 0) q j) (i6 : (0 : Int) ≤ M102 48 1) (zM102 : M102 48 1 = 0 + 1) (tM102 : rw_T (M102 49) [x])
          show post (some (0, 0, (-2147483648), 2147483647, x)) M102
          exact k _ _ _ _ (tw_gf hB hG hs (by omega) hb (by decide)) (fun q j h1 h2 => (i5 q j h2).trans ((xa_up_ne (by omega)).trans (hG q j h1))) (by have rr : 0 ≤ x := (by rw [hb]; exact rz_wn _ (by omega)); unfold rz_c; omega) (rw_yes (by have rr : 0 ≤ x := (by rw [hb]; exact rz_wn _ (by omega)); show 0 ≤ (x : Int); omega) (by have rr : 0 ≤ x := (by rw [hb]; exact rz_wn _ (by omega)); omega) (V := rw_v [if 0 < N9 75 x1 then x else 0]) (fun i i0 i1 => by rw [if_pos (by omega)]; exact tM102 i i0 i1) ⟨ax, N9, ⟨N0, xm_cor_r, t1⟩, t3, trivial, rfl⟩)
      · intro (c1 : p < (M1 55 4))
        show xa_C (xl_I _) A h0 _ 54 [(2, 12, 0, 0, 0), (0, 0, (-2147483648), 2147483647, x1)] M1 _
        refine cx_54_12 (show 0 ≤ x1 ∧ x1 < 10 by omega) ?_
        show xa_C (xl_I _) A h0 _ 56 [(1, 0, (-9223372036854775808), 9223372036854775807, M1 13 x1)] M1 _
        refine ct_abs (lo := 0) (hi := 1000000000000000) (show -9223372036854775808 < (M1 13 x1) by omega) (fun a103 h104 => ⟨by omega, ?_⟩)
        show xa_C (xl_I _) A h0 _ 64 [(2, 55, 0, 0, 0), (0, 0, 0, 8, p)] M1 _
        refine cx_64_55 (show 0 ≤ p ∧ p < 8 by omega) ?_
        show xa_C (xl_I _) A h0 _ 51 [(2, 12, 0, 0, 0), (0, 0, (-2147483648), 2147483647, x1)] M1 _
        refine cx_51_12 (show 0 ≤ x1 ∧ x1 < 10 by omega) ?_
        show xa_C (xl_I _) A h0 _ 65 [(2, 55, 0, 0, 0), (0, 0, 0, 8, p)] M1 _
        refine cx_65_55 (show 0 ≤ p ∧ p < 8 by omega) ?_
        refine And.intro ?_ ?_
        · intro (c7 : ¬ (xa_w64 (a103 * (M1 57 p))) = (xa_w64 ((M1 14 x1) * (M1 56 p))))
          show Q 17 [(4, (0, 0, 1, 9, p + 1)), (3, (0, 0, (-2147483648), 2147483647, xa_ib 4 x 0)), (5, (1, 0, (-9223372036854775808), 9223372036854775807, xa_w64 (a103 * (M1 57 p)))), (1, (0, 0, (-2147483648), 2147483647, x1)), (0, (2, 0, 0, 0, 0))] [] M1
          refine hgo.2.1 17 _ [(4, (0, 0, 0, 8, p + 1)), (3, (0, 0, (-2147483648), 2147483647, xa_ib 4 x 0)), (1, (0, 0, (-2147483648), 2147483647, x1)), (0, (2, 0, 0, 0, 0))] _ _ (xa_subI rfl rfl (fun _ _ _ _ => by omega) (xa_subI rfl rfl (fun _ _ _ _ => by omega) (xa_subI rfl rfl (fun _ _ _ _ => by omega) (xa_subR rfl (xa_sub0))))) ?_
          have ea := h104
          exact ih (p + 1) (xa_ib 4 x 0) M1 (by omega) (by omega) hG hs (tw_bz p1.1 (fun h => c7 (by rw [ea]; exact h)) hb) (by omega)
        · intro (c7 : (xa_w64 (a103 * (M1 57 p))) = (xa_w64 ((M1 14 x1) * (M1 56 p))))
          show Q 17 [(4, (0, 0, 1, 9, p + 1)), (3, (0, 0, (-2147483648), 2147483647, xa_ib 4 x (xa_ib 6 1 p))), (5, (1, 0, (-9223372036854775808), 9223372036854775807, xa_w64 (a103 * (M1 57 p)))), (1, (0, 0, (-2147483648), 2147483647, x1)), (0, (2, 0, 0, 0, 0))] [] M1
          refine hgo.2.1 17 _ [(4, (0, 0, 0, 8, p + 1)), (3, (0, 0, (-2147483648), 2147483647, xa_ib 4 x (xa_ib 6 1 p))), (1, (0, 0, (-2147483648), 2147483647, x1)), (0, (2, 0, 0, 0, 0))] _ _ (xa_subI rfl rfl (fun _ _ _ _ => by omega) (xa_subI rfl rfl (fun _ _ _ _ => by omega) (xa_subI rfl rfl (fun _ _ _ _ => by omega) (xa_subR rfl (xa_sub0))))) ?_
          have ea := h104
          exact ih (p + 1) (xa_ib 4 x (xa_ib 6 1 p)) M1 (by omega) (by omega) hG hs (tw_b1 p1.1 (by rw [ea] at c7; exact c7) hb) (by omega)
  refine hgo.1 15 [17] 0 _ _ _ ?_
  show xa_C (xl_I _) A h0 _ 46 [(2, 0, 0, 0, 0), (0, 0, (-2147483648), 2147483647, x1)] M _
  refine cx_46t hM0 hC0 ?_
  intro v105 M106 (i1 : tu_S N0 x1 v105 M106) (i2 : tu_G M M106)
  refine And.intro ?_ ?_
  · intro (c3 : v105 = 0)
    rw [c3] at i1
    have ax := (tu_S0 i1).1
    show Q 17 [(4, (0, 0, 0, 0, 0)), (3, (0, 0, 0, 0, 0)), (2, (0, 0, (-5), 0, v105)), (0, (2, 0, 0, 0, 0)), (1, (0, 0, (-2147483648), 2147483647, x1))] [] M106
    refine hgo.2.1 17 _ [(4, (0, 0, 0, 8, 0)), (3, (0, 0, (-2147483648), 2147483647, 0)), (1, (0, 0, (-2147483648), 2147483647, x1)), (0, (2, 0, 0, 0, 0))] _ _ (xa_subI rfl rfl (fun _ _ _ _ => by omega) (xa_subI rfl rfl (fun _ _ _ _ => by omega) (xa_subI rfl rfl (fun _ _ _ _ => by omega) (xa_subR rfl (xa_sub0))))) ?_
    exact loop 9 0 0 M106 (by omega) (by omega) i2 i1 rfl (by omega)
  · intro (c3 : ¬ v105 = 0)
    show post (some (0, 0, (-5), 0, v105)) M106
    exact k _ _ _ _ (tw_A_of i1 (fun e => absurd e (by omega))) (fun q j h1 h2 => i2 q j h1) (by have zi2 := i2 48 1 (by omega); have rr := rz_Sle i1; unfold rz_c; omega) (rw_no (by have zi2 := i2 48 1 (by omega); have rr := rz_Sle i1; show ¬ 0 ≤ (v105 : Int); omega) (by have zi2 := i2 48 1 (by omega); have rr := rz_Sle i1; omega) (fun i _ _ => i2 49 i (by omega)))
theorem rw_63 {b : Bool} {A : Nat → Nat} {h0 : g_H} {d : Nat} {M : xa_M} {post : Option xa_V → xa_M → Prop} {l1 u1 x1 : Int} {N0 : xa_M} (hM0 : tu_M N0) (hC0 : tu_C M N0) (hB : tk_B (bk_p b) M N0) (k : ∀ (lo hi v : Int) (M1 : xa_M), tw_A N0 x1 v (tw_gC N0 x1) → (∀ (q : Nat) (j : Int), ¬ (12 ≤ q ∧ q ≤ 14) → ¬ (q = 48 ∨ q = 49) → M1 q j = M q j) → rz_c (0 ≤ v) (M 48 1) (M1 48 1) (1) → rw_k (0 ≤ v) (M 48 1) (M 49) (M1 48 1) (M1 49) 1 (fun V => rw_t N0 x1 (fun _ => True) (fun N => rw_v [if 0 < N 75 x1 then v else 0]) V) → post (some (0, 0, lo, hi, v)) M1) : xa_C (xl_I b) A h0 (d + 8) 63 [(2, 0, 0, 0, 0), (0, 0, l1, u1, x1)] M post := by
  cases b
  · exact rw_63_50 hM0 hC0 hB k
  · exact rw_63_55 hM0 hC0 hB k
theorem rw_m63 {A : Nat → Nat} {h0 : g_H} {d : Nat} {M : xa_M} {post : Option xa_V → xa_M → Prop} {l1 u1 : Int} {a : Int} (hI : xm_Inv M) (k : ∀ (o : Option xa_V) (M1 : xa_M), (∃ lo hi n, o = some (0, 0, lo, hi, n) ∧ tw_A M a n (tw_gR M a) ∧ rz_c (0 ≤ (n : Int)) (M 60 20) (M1 60 20) (1) ∧ rw_k (0 ≤ n) (M 60 20) (M 74) (M1 60 20) (M1 74) 1 (fun V => rw_t M a (fun _ => True) (fun N => rw_v [if 0 < N 75 a then n else 0]) V)) → xm_cor M M1 → post o M1) : xa_C xm_I A h0 (d + 6) 234 [(2, 60, 0, 0, 0), (0, 0, l1, u1, a)] M post := by
  refine xa_C_arg [(2, 60, 0, 0, 0), (0, 0, (-2147483648), 2147483647, a)] (xa_svR (xa_svI (fun _ _ _ _ => by omega) xa_sv0)) ?_
  refine xa_meth (Q0 := (6, 1, false, 0, 0, 12)) (by decide +kernel) ⟨rfl, rfl⟩ (full := s_c_234) rfl rfl ?_
  intro hM hv Q hgo
  have loop : ∀ (n : Nat) (p b : Int) (M1 : xa_M), 0 ≤ p → p ≤ 8 → xm_cor M M1 → ((0 ≤ a ∧ a ≤ 9) ∧ ∃ N : xa_M, tw_F M (-1) 0 N ∧ N 77 a = 1 ∧ M1 75 a = N 75 a) → b = wd_b (tw_gq M a M1) p.toNat → p ≤ M 60 11 → (∀ v, v = wd_b (tw_gq M a M1) (M 60 11).toNat → tw_A M a v (tw_gR M a)) → 8 - p < (n : Int) → 0 ≤ a → a ≤ 9 → Q 31 [(4, (0, 0, 0, 8, p)), (3, (0, 0, (-2147483648), 2147483647, b)), (1, (0, 0, 0, 9, a)), (0, (2, 60, 0, 0, 0))] [] M1 := by
    intro n
    induction n with
    | zero => intro p b M1 h1 h2 hc h9 hb hle hS hms; clear hb hS h9; omega
    | succ n ih =>
      intro p b M1 h1 h2 hc h9 hb hle hS hms
      obtain ⟨ha9, N9, h9F, h97, h95⟩ := h9
      intro ha0 ha1
      refine hgo.2.2 _ _ _ _ (fun hM1 _ => ?_)
      have hI1 := xm_Inv_cor hc hI
      have b11 := xm_f11 hM1
      have e11 := xm_corf hc 11 (by omega)
      have e70 := xm_corq hc 70 rfl p
      have e71 := xm_corq hc 71 rfl p
      have t70 : p < M1 60 11 → 0 ≤ M1 70 p ∧ M1 70 p ≤ 2000 := fun h => xm_t70 hM1 p h1 (by omega)
      have t71 : p < M1 60 11 → 0 ≤ M1 71 p ∧ M1 71 p ≤ 2000 := fun h => xm_t71 hM1 p h1 (by omega)
      have hp := hI1.2.2.1 p h1
      refine hgo.1 55 [31] 31 _ _ _ ?_
      refine And.intro ?_ ?_
      · intro (c1 : (M1 60 11) ≤ p)
        refine And.intro ?_ ?_
        · intro (c2 : (M1 75 a) ≤ 0)
          show xa_C xm_I A h0 _ 231 [(2, 60, 0, 0, 0), (1, 0, 0, 0, 0)] (xa_up M1 60 20 0) _
          refine ct_tell (n := 0) (by first | rfl | (simp [xa_up]; done) | omega) (by omega) (by omega) ?_
          show post (some (0, 0, (-2147483648), 2147483647, b)) (xa_up (xa_up (xa_up M1 60 20 0) 74 0 0) 60 20 1)
          exact k _ _ ⟨_, _, _, rfl, hS _ (by rw [hb, show p = M 60 11 by omega]), by show rz_c (0 ≤ (b : Int)) (M 60 20) (1) (1); have rr : 0 ≤ b := (by rw [hb]; exact rz_wn _ (by omega)); unfold rz_c; omega, by exact rw_yes (by have rr : 0 ≤ b := (by rw [hb]; exact rz_wn _ (by omega)); show 0 ≤ (b : Int); omega) xa_up_eq (V := rw_v [if 0 < N9 75 a then b else 0]) (fun i i0 i1 => by rw [if_neg (by omega)]; rcases (show i = 0 by omega) with rfl; first | rfl | (simp [xa_up, rw_v]; done)) ⟨ha9, N9, h9F, h97, trivial, rfl⟩⟩ (xm_cor_f (by omega) (xm_cor_a rfl (xm_cor_f (by omega) hc)))
        · intro (c2 : 0 < (M1 75 a))
          show xa_C xm_I A h0 _ 231 [(2, 60, 0, 0, 0), (1, 0, (-2147483648), 2147483647, b)] (xa_up M1 60 20 0) _
          refine ct_tell (n := 0) (by first | rfl | (simp [xa_up]; done) | omega) (by omega) (by omega) ?_
          show post (some (0, 0, (-2147483648), 2147483647, b)) (xa_up (xa_up (xa_up M1 60 20 0) 74 0 b) 60 20 1)
          exact k _ _ ⟨_, _, _, rfl, hS _ (by rw [hb, show p = M 60 11 by omega]), by show rz_c (0 ≤ (b : Int)) (M 60 20) (1) (1); have rr : 0 ≤ b := (by rw [hb]; exact rz_wn _ (by omega)); unfold rz_c; omega, by exact rw_yes (by have rr : 0 ≤ b := (by rw [hb]; exact rz_wn _ (by omega)); show 0 ≤ (b : Int); omega) xa_up_eq (V := rw_v [if 0 < N9 75 a then b else 0]) (fun i i0 i1 => by rw [if_pos (by omega)]; rcases (show i = 0 by omega) with rfl; first | rfl | (simp [xa_up, rw_v]; done)) ⟨ha9, N9, h9F, h97, trivial, rfl⟩⟩ (xm_cor_f (by omega) (xm_cor_a rfl (xm_cor_f (by omega) hc)))
      · intro (c1 : p < (M1 60 11))
        refine And.intro (show 0 ≤ p ∧ p < 8 by omega) ?_
        refine And.intro (show 0 ≤ p ∧ p < 8 by omega) ?_
        show xa_C xm_I A h0 _ 229 [(1, 0, 0, 2000, M1 70 p), (1, 0, 0, 2000, M1 71 p)] M1 _
        refine ct_gcd1 (by decide) (by decide) (by omega) (fun g3 eg3 pg3 qg3 => ?_)
        have wg3 := xa_w32_id (n := g3) (by omega) (by omega)
        show xa_C xm_I A h0 _ 56 [(1, 0, (-1000000000000000), 1000000000000000, M1 75 a)] M1 _
        refine ct_absb 1000000000000000 (by decide) (by decide) (by decide) (fun a4 ea4 => ?_)
        refine And.intro (show 0 ≤ p ∧ p < 8 by omega) ?_
        refine And.intro (show 0 < (xa_w32 g3) by omega) ?_
        refine And.intro ?_ ?_
        · intro (c5 : ¬ a4 = ((M1 70 p) / (xa_w32 g3)))
          show Q 31 [(4, (0, 0, 1, 9, p + 1)), (5, (0, 0, (-2147483648), 2147483647, xa_w32 g3)), (3, (0, 0, (-2147483648), 2147483647, b)), (1, (0, 0, 0, 9, a)), (0, (2, 60, 0, 0, 0))] [] M1
          refine hgo.2.1 31 _ [(4, (0, 0, 0, 8, p + 1)), (3, (0, 0, (-2147483648), 2147483647, b)), (1, (0, 0, 0, 9, a)), (0, (2, 60, 0, 0, 0))] _ _ (xa_subI rfl rfl (fun _ _ _ _ => by omega) (xa_subI rfl rfl (fun _ _ _ _ => by omega) (xa_subI rfl rfl (fun _ _ _ _ => by omega) (xa_subR rfl xa_sub0)))) ?_
          exact ih (p + 1) b _ (by omega) (by omega) hc ⟨ha9, N9, h9F, h97, h95⟩ (tw_b0 h1 (fun h => by unfold tw_gq at h; rw [← e70, ← e71, ← eg3, ← wg3, ← ea4] at h; exact c5 h.1) hb) (by omega) hS (by omega) ha0 ha1
        · intro (c5 : a4 = ((M1 70 p) / (xa_w32 g3)))
          refine And.intro (show 0 ≤ p ∧ p < 8 by omega) ?_
          refine And.intro (show 0 < (xa_w32 g3) by omega) ?_
          refine And.intro ?_ ?_
          · intro (c6 : ¬ (M1 76 a) = ((M1 71 p) / (xa_w32 g3)))
            show Q 31 [(4, (0, 0, 1, 9, p + 1)), (5, (0, 0, (-2147483648), 2147483647, xa_w32 g3)), (3, (0, 0, (-2147483648), 2147483647, b)), (1, (0, 0, 0, 9, a)), (0, (2, 60, 0, 0, 0))] [] M1
            refine hgo.2.1 31 _ [(4, (0, 0, 0, 8, p + 1)), (3, (0, 0, (-2147483648), 2147483647, b)), (1, (0, 0, 0, 9, a)), (0, (2, 60, 0, 0, 0))] _ _ (xa_subI rfl rfl (fun _ _ _ _ => by omega) (xa_subI rfl rfl (fun _ _ _ _ => by omega) (xa_subI rfl rfl (fun _ _ _ _ => by omega) (xa_subR rfl xa_sub0)))) ?_
            exact ih (p + 1) b _ (by omega) (by omega) hc ⟨ha9, N9, h9F, h97, h95⟩ (tw_b0 h1 (fun h => by unfold tw_gq at h; rw [← e70, ← e71, ← eg3, ← wg3, ← ea4] at h; exact c6 h.2) hb) (by omega) hS (by omega) ha0 ha1
          · intro (c6 : (M1 76 a) = ((M1 71 p) / (xa_w32 g3)))
            show Q 31 [(4, (0, 0, 1, 9, p + 1)), (3, (0, 0, (-2147483648), 2147483647, xa_ib 4 b (xa_ib 6 1 p))), (5, (0, 0, (-2147483648), 2147483647, xa_w32 g3)), (1, (0, 0, 0, 9, a)), (0, (2, 60, 0, 0, 0))] [] M1
            refine hgo.2.1 31 _ [(4, (0, 0, 0, 8, p + 1)), (3, (0, 0, (-2147483648), 2147483647, xa_ib 4 b (xa_ib 6 1 p))), (1, (0, 0, 0, 9, a)), (0, (2, 60, 0, 0, 0))] _ _ (xa_subI rfl rfl (fun _ _ _ _ => by omega) (xa_subI rfl rfl (fun _ _ _ _ => by omega) (xa_subI rfl rfl (fun _ _ _ _ => by omega) (xa_subR rfl xa_sub0)))) ?_
            exact ih (p + 1) (xa_ib 4 b (xa_ib 6 1 p)) _ (by omega) (by omega) hc ⟨ha9, N9, h9F, h97, h95⟩ (tw_b1 h1 (show tw_gq M a M1 p by unfold tw_gq; rw [← e70, ← e71, ← eg3, ← wg3, ← ea4]; exact ⟨c5, c6⟩) hb) (by omega) hS (by omega) ha0 ha1
  refine hgo.1 21 [31] 0 _ _ _ ?_
  show xa_C xm_I A h0 _ 215 [(0, 0, (-2147483648), 2147483647, a)] (xa_up M 60 21 0) _
  refine ct_isAxle ?_ ?_
  · intro (i1 : 0 ≤ a ∧ a ≤ 9)
    show xa_C xm_I A h0 _ 226 [(2, 60, 0, 0, 0), (0, 0, (-2147483648), 2147483647, a)] (xa_up M 60 21 0) _
    refine rz_fx (j := 226) (by decide) (xa_C_mok (xw_ct_stateOfF (xm_Inv_cor (xm_cor_f (by omega) xm_cor_r) hI) (by omega) (by omega) (fun v2 w2 M2 hc2 hT2 hF2 hw2 hv2 hs2 hM2 => ?_)))
    intro (zM2 : M2 60 20 = M 60 20)
    refine And.intro ?_ ?_
    · intro (c3 : 0 ≤ v2)
      show Q 31 [(4, (0, 0, 0, 0, 0)), (3, (0, 0, 0, 0, 0)), (2, (0, 0, (-5), 0, v2)), (0, (2, 60, 0, 0, 0)), (1, (0, 0, (-2147483648), 2147483647, a))] [] M2
      refine hgo.2.1 31 _ [(4, (0, 0, 0, 8, 0)), (3, (0, 0, (-2147483648), 2147483647, 0)), (1, (0, 0, 0, 9, a)), (0, (2, 60, 0, 0, 0))] _ _ (xa_subI rfl rfl (fun _ _ _ _ => by omega) (xa_subI rfl rfl (fun _ _ _ _ => by omega) (xa_subI rfl rfl (fun _ _ _ _ => by omega) (xa_subR rfl xa_sub0)))) ?_
      exact loop 9 0 0 _ (by omega) (by omega) (xm_cor_t (xm_cor_f (by omega) xm_cor_r) (xw_to hc2)) (by have e9 : w2 = 0 := (by omega); subst e9; exact ⟨i1, M2, ⟨_, xm_cor_f (by omega) xm_cor_r, hF2⟩, by omega, rfl⟩) rfl (xm_f11 hM).1 (fun v e => Or.inr ⟨i1, w2, M2, ⟨_, xm_cor_f (by omega) xm_cor_r, hF2⟩, Or.inr (Or.inr ⟨by omega, by omega, M2, rfl, rfl, e⟩)⟩) (by omega) (by omega) (by omega)
    · intro (c3 : v2 < 0)
      show post (some (0, 0, (-5), 0, v2)) M2
      exact k _ _ ⟨_, _, _, rfl, Or.inr ⟨i1, w2, M2, ⟨_, xm_cor_f (by omega) xm_cor_r, hF2⟩, tw_s3 (T := tw_gR M a) hs2 (by omega)⟩, by show rz_c (0 ≤ (v2 : Int)) (M 60 20) (M2 60 20) (1); unfold rz_c; omega, by exact rw_no (by show ¬ 0 ≤ (v2 : Int); omega) (by show M2 60 20 = M 60 20; omega) (fun i i0 i1 => ((xw_74 hc2 i0 (by have b20 := xm_f20 hM; omega)).trans (xa_up_ne (by omega))))⟩ (xm_cor_t (xm_cor_f (by omega) xm_cor_r) (xw_to hc2))
  · intro (i1 : ¬ (0 ≤ a ∧ a ≤ 9))
    show post (some (0, 0, (-1), (-1), (-1))) (xa_up M 60 21 0)
    exact k _ _ ⟨_, _, _, rfl, Or.inl ⟨i1, rfl⟩, by show rz_c (0 ≤ ((-1) : Int)) (M 60 20) (M 60 20) (1); unfold rz_c; omega, by exact rw_no (by show ¬ 0 ≤ ((-1) : Int); omega) (by show M 60 20 = M 60 20; omega) (fun i _ _ => xa_up_ne (by omega))⟩ (xm_cor_f (by omega) xm_cor_r)
theorem rw_p63 (A : Nat → Nat) (cmp : Bool) : iv_pair (rw_J A) A 63 234 [0] cmp false := rw_armV (fun W b h as M hJ hM hInv hs hR hz => by
  obtain ⟨m1, ys, rfl, -, hs⟩ := iv_spc hs
  obtain rfl := iv_sp0 hs
  have b0 := xm_f0 (xa_H_Mok hM)
  have b6 := xm_f6 (xa_H_Mok hM)
  have r1 : iv_num h 1 9 = M 60 0 := hR.1.1
  have r2 : iv_num h 1 10 = M 60 6 := hR.1.2.1
  have r3 : ∀ i, 0 ≤ i → i < 14 → iv_num h 2 i = M 61 i ∧ iv_num h 3 i = M 62 i ∧ iv_num h 5 i = M 64 i ∧ iv_num h 6 i = M 65 i ∧ iv_num h 4 i = M 63 i := hR.1.2.2.1
  have r4 : ∀ i, 0 ≤ i → i < 16 → iv_num h 7 i = M 66 i ∧ iv_num h 8 i = M 67 i := hR.1.2.2.2
  have hS := hR.2
  have hMk := xa_H_Mok hM
  have hT := tu_M_of hMk hInv
  have hr := xm_rng_I hMk hInv
  have hC0 : tu_C (iv_num h) M := ⟨r2, r4, fun w w0 w1 => ⟨(r3 w w0 w1).2.2.1, (r3 w w0 w1).2.2.2.2⟩⟩
  obtain ⟨s1, s2, s3, s4⟩ := lm_Sx.mp hR.2.1
  have b11 := xm_f11 hMk
  have hB : tk_B (bk_p b) (iv_num h) M := ⟨s3, b11, fun p p0 p1 => by
    obtain ⟨g1, g2, -⟩ := s4 p p0 (by omega) p1
    have t1 := xm_t70 hMk p p0 (by omega)
    have t2 := xm_t71 hMk p p0 (by omega)
    have t3 := hInv.2.2.1 p p0 p1
    exact ⟨⟨g1, g2⟩, by omega, by omega⟩⟩
  have hb2 : ∀ p, 0 ≤ p → p < M 60 11 → 0 ≤ M 70 p ∧ 1 ≤ M 71 p := fun p p0 p1 => by
    have t3 := hB.2.2 p p0 p1
    omega
  have hc := rw_63 (b := b) (A := A) (h0 := h) (d := 52) (M := iv_num h) (N0 := M) (l1 := -2147483648) (u1 := 2147483647) (x1 := m1.toInt) (post := fun o M1 => ∃ lo hi n, o = some (0, 0, lo, hi, n) ∧ ((tw_A M m1.toInt n (tw_gC M m1.toInt) ∧ ∀ (q : Nat) (j : Int), ¬ (12 ≤ q ∧ q ≤ 14) → ¬ (q = 48 ∨ q = 49) → M1 q j = iv_num h q j) ∧ rw_k (0 ≤ n) (iv_num h 48 1) (iv_num h 49) (M1 48 1) (M1 49) 1 (fun V => rw_t M m1.toInt (fun _ => True) (fun N => rw_v [if 0 < N 75 m1.toInt then n else 0]) V))) hT hC0 hB (fun lo hi n M1 x1 x2 _ x3 => ⟨lo, hi, n, rfl, ⟨x1, x2⟩, x3⟩)
  have hm := fun (h1 : g_H) => rw_m63 (A := A) (h0 := h1) (d := 54) (M := M) (l1 := -2147483648) (u1 := 2147483647) (a := m1.toInt) (post := fun o M2 => (∃ lo hi n, o = some (0, 0, lo, hi, n) ∧ ((tw_A M m1.toInt n (tw_gR M m1.toInt) ∧ xm_cor M M2) ∧ rw_k (0 ≤ n) (M 60 20) (M 74) (M2 60 20) (M2 74) 1 (fun V => rw_t M m1.toInt (fun _ => True) (fun N => rw_v [if 0 < N 75 m1.toInt then n else 0]) V))) ∧ xm_Inv M2) hInv (fun o M2 x1 x2 => by
    obtain ⟨lo, hi, n, rfl, x1, -, x3⟩ := x1
    exact ⟨⟨lo, hi, n, rfl, ⟨x1, x2⟩, x3⟩, xm_Inv_cor x2 hInv⟩)
  refine ⟨[(2, 0, 0, 0, 0), (0, 0, -2147483648, 2147483647, m1.toInt)], [(2, 60, 0, 0, 0), (0, 0, -2147483648, 2147483647, m1.toInt)], _, _, ⟨rfl, iv_i m1, trivial⟩, ⟨rfl, iv_i m1, trivial⟩, fun n n' M1 M2 g1 g2 => by
    obtain ⟨h1, z1⟩ := g1
    obtain ⟨h2, z2⟩ := g2
    have en : n = n' := tw_A_one hr h1.1 h2.1 (fun _ _ _ _ _ e1 e2 t t' => tw_g_one hb2 e1 e2 t t')
    exact ⟨fun _ => en, fun x => h2.2 104 x (by unfold xm_scr; omega), fun x => h2.2 105 x (by unfold xm_scr; omega), tw_lmR hR h1.2 h2.2, rw_k1 z1 z2 (by rw [en]) (fun _ => by decide) (fun V V' hp s1 s2 i _ _ => rw_t1 hr s1 s2 (fun N N' _ e1 _ _ _ i => by rw [e1, en]) i) hz⟩, hc, hm⟩)
