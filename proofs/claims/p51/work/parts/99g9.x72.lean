set_option maxRecDepth 20000
theorem rw_62 {b : Bool} {A : Nat → Nat} {h0 : g_H} {d : Nat} {M : xa_M} {post : Option xa_V → xa_M → Prop} {N0 : xa_M} (hM0 : tu_M N0) (hC0 : tu_C M N0) (k : ∀ (lo hi v : Int) (M1 : xa_M), tw_62 N0 v → (∀ (q : Nat) (j : Int), ¬ (12 ≤ q ∧ q ≤ 14) → M1 q j = M q j) → post (some (0, 0, lo, hi, v)) M1) : xa_C (xl_I b) A h0 (d + 7) 62 [(2, 0, 0, 0, 0)] M post := by
  refine xa_meth (Q0 := (5, 1, false, 0, 0, 11)) (by decide +kernel) ⟨rfl, rfl⟩ (full := s_c_62) rfl rfl ?_
  intro hM hv Q hgo
  have hn6 := hM0.1
  have loop : ∀ (w : Int) (Nw : xa_M), w = -3 → tw_F N0 (-1) w Nw → ∀ (f : Nat) (m x : Int) (M1 : xa_M) (T : Int → Int), 0 ≤ m ∧ m ≤ 16 → m ≤ N0 60 6 → tu_G M M1 → tw_J N0 m T → x = wd_b (fun j => T j = 0) m.toNat → 16 - m < (f : Int) → Q 25 [(3, (0, 0, 0, 16, m)), (2, (0, 0, (-2147483648), 2147483647, x)), (0, (2, 0, 0, 0, 0))] [] M1 := by
    intro w Nw hw3 hFw f
    induction f with
    | zero => intro m x M1 T m1 hn hG hJ hb hms; clear hJ hb; omega
    | succ f ih =>
      intro m x M1 T m1 hn hG hJ hb hms
      have e10 : M1 1 10 = N0 60 6 := (hG 1 10 (by omega)).trans hC0.1
      refine hgo.1 31 [25] 25 _ _ _ ?_
      refine And.intro ?_ ?_
      · intro (c1 : (M1 1 10) ≤ m)
        show post (some (0, 0, (-2147483648), 2147483647, x)) M1
        exact k _ _ _ _ ⟨w, Nw, hFw, Or.inr ⟨hw3, m, T, m1.1, hn, hJ, Or.inl ⟨by omega, hb⟩⟩⟩ (fun q j h1 => hG q j h1)
      · intro (c1 : m < (M1 1 10))
        show xa_C (xl_I b) A h0 _ 47 [(2, 12, 0, 0, 0), (2, 1, 0, 0, 0), (0, 0, 0, 16, m)] M1 _
        refine cx_47t hM0 (tu_C_G hC0 hG) ?_
        intro v101 M102 (i2 : v101 = 0 ∨ v101 = -3 ∨ v101 = -5) (i3 : tu_V m N0 v101 M102) (i4 : tu_G M1 M102)
        refine And.intro ?_ ?_
        · intro (c5 : ¬ v101 = (-5))
          refine And.intro ?_ ?_
          · intro (c6 : ¬ v101 = (-3))
            show Q 25 [(3, (0, 0, 1, 17, m + 1)), (2, (0, 0, (-2147483648), 2147483647, xa_ib 4 x (xa_ib 6 1 m))), (4, (0, 0, (-5), 0, v101)), (0, (2, 0, 0, 0, 0))] [] M102
            refine hgo.2.1 25 _ [(3, (0, 0, 0, 16, m + 1)), (2, (0, 0, (-2147483648), 2147483647, xa_ib 4 x (xa_ib 6 1 m))), (0, (2, 0, 0, 0, 0))] _ _ (xa_subI rfl rfl (fun _ _ _ _ => by omega) (xa_subI rfl rfl (fun _ _ _ _ => by omega) (xa_subR rfl (xa_sub0)))) ?_
            have hv : v101 = 0 := by omega
            rw [hv] at i3
            obtain ⟨N9, hN9, -⟩ := i3
            obtain ⟨T', t1, t2, t3⟩ := tw_Js hJ (by omega) ⟨N0, xm_cor_r, hN9⟩
            exact ih (m + 1) (xa_ib 4 x (xa_ib 6 1 m)) M102 T' (by omega) (by omega) (fun q j h => (i4 q j h).trans (hG q j h)) t1 (tw_b1 m1.1 t2 (hb.trans (wd_b_e _ (fun p hp => by show T (p : Int) = 0 ↔ T' (p : Int) = 0; rw [t3 (p : Int) (by omega) (by omega)])))) (by omega)
          · intro (c6 : v101 = (-3))
            show Q 25 [(3, (0, 0, 1, 17, m + 1)), (2, (0, 0, (-2147483648), 2147483647, xa_ib 4 x 0)), (4, (0, 0, (-5), 0, v101)), (0, (2, 0, 0, 0, 0))] [] M102
            refine hgo.2.1 25 _ [(3, (0, 0, 0, 16, m + 1)), (2, (0, 0, (-2147483648), 2147483647, xa_ib 4 x 0)), (0, (2, 0, 0, 0, 0))] _ _ (xa_subI rfl rfl (fun _ _ _ _ => by omega) (xa_subI rfl rfl (fun _ _ _ _ => by omega) (xa_subR rfl (xa_sub0)))) ?_
            have hv : v101 = -3 := by omega
            rw [hv] at i3
            obtain ⟨N9, hN9, -⟩ := i3
            obtain ⟨T', t1, t2, t3⟩ := tw_Js hJ (by omega) ⟨N0, xm_cor_r, hN9⟩
            exact ih (m + 1) (xa_ib 4 x 0) M102 T' (by omega) (by omega) (fun q j h => (i4 q j h).trans (hG q j h)) t1 (tw_bz m1.1 (fun h => by have : T' m = 0 := h; omega) (hb.trans (wd_b_e _ (fun p hp => by show T (p : Int) = 0 ↔ T' (p : Int) = 0; rw [t3 (p : Int) (by omega) (by omega)])))) (by omega)
        · intro (c5 : v101 = (-5))
          show post (some (0, 0, (-5), (-5), (-5))) M102
          have hv : v101 = -5 := by omega
          rw [hv] at i3
          obtain ⟨N9, hN9, -⟩ := i3
          exact k _ _ _ _ ⟨w, Nw, hFw, Or.inr ⟨hw3, m, T, m1.1, hn, hJ, Or.inr ⟨by omega, ⟨N9, N0, xm_cor_r, hN9⟩, rfl⟩⟩⟩ (fun q j h1 => (fun q j h => (i4 q j h).trans (hG q j h)) q j h1)
  refine hgo.1 19 [25] 0 _ _ _ ?_
  show xa_C (xl_I b) A h0 _ 47 [(2, 12, 0, 0, 0), (2, 1, 0, 0, 0), (0, 0, (-1), (-1), (-1))] M _
  refine cx_47t hM0 hC0 ?_
  intro v103 M104 (i1 : v103 = 0 ∨ v103 = -3 ∨ v103 = -5) (i2 : tu_V (-1) N0 v103 M104) (i3 : tu_G M M104)
  refine And.intro ?_ ?_
  · intro (c4 : v103 = (-3))
    show Q 25 [(3, (0, 0, 0, 0, 0)), (2, (0, 0, 0, 0, 0)), (1, (0, 0, (-5), 0, v103)), (0, (2, 0, 0, 0, 0))] [] M104
    refine hgo.2.1 25 _ [(3, (0, 0, 0, 16, 0)), (2, (0, 0, (-2147483648), 2147483647, 0)), (0, (2, 0, 0, 0, 0))] _ _ (xa_subI rfl rfl (fun _ _ _ _ => by omega) (xa_subI rfl rfl (fun _ _ _ _ => by omega) (xa_subR rfl (xa_sub0)))) ?_
    obtain ⟨N9, hN9, -⟩ := i2
    exact loop v103 N9 (by omega) ⟨N0, xm_cor_r, hN9⟩ 17 0 0 M104 (fun _ => 0) (by omega) (by omega) i3 (fun j j0 j1 => by omega) rfl (by omega)
  · intro (c4 : ¬ v103 = (-3))
    show post (some (0, 0, (-5), 0, v103)) M104
    obtain ⟨N9, hN9, -⟩ := i2
    exact k _ _ _ _ ⟨_, N9, ⟨N0, xm_cor_r, hN9⟩, Or.inl ⟨by omega, rfl⟩⟩ (fun q j h1 => i3 q j h1)
theorem rw_166_50 {A : Nat → Nat} {h0 : g_H} {d : Nat} {M : xa_M} {post : Option xa_V → xa_M → Prop} {l1 u1 l2 u2 l3 u3 x1 x2 x3 : Int} {N0 : xa_M} (hM0 : tu_M N0) (hC0 : tu_C M N0) (hB : tk_B 50 M N0) (k : ∀ (lo hi v : Int) (M1 : xa_M), tw_P ((0 ≤ x2 ∧ x2 < N0 60 11) ∧ (0 ≤ x3 ∧ x3 ≤ 360)) N0 x1 v (tw_oT tw_oC N0 x1 x2 x3) → (∀ (q : Nat) (j : Int), ¬ (12 ≤ q ∧ q ≤ 14) → M1 q j = M q j) → post (some (0, 0, lo, hi, v)) M1) : xa_C (xl_I false) A h0 (d + 9) 166 [(2, 0, 0, 0, 0), (0, 0, l1, u1, x1), (0, 0, l2, u2, x2), (0, 0, l3, u3, x3)] M post := by
  refine xa_C_arg [(2, 0, 0, 0, 0), (0, 0, (-2147483648), 2147483647, x1), (0, 0, (-2147483648), 2147483647, x2), (0, 0, (-2147483648), 2147483647, x3)] (xa_svR (xa_svI (fun _ _ _ _ => by omega) (xa_svI (fun _ _ _ _ => by omega) (xa_svI (fun _ _ _ _ => by omega) (xa_sv0))))) ?_
  refine xa_meth (Q0 := (9, 1, false, 0, 0, 11)) (by decide +kernel) ⟨rfl, rfl⟩ (full := s_c_166) rfl rfl ?_
  intro hM hv Q hgo
  refine hgo.1 54 [] 0 _ _ _ ?_
  show xa_C (xl_I _) A h0 _ 87 [(2, 50, 0, 0, 0), (0, 0, (-2147483648), 2147483647, x2)] M _
  refine cx_87_50 ?_ ?_ ?_
  · intro (i1 : x2 < 0)
    show post (some (0, 0, (-1), (-1), (-1))) M
    exact k _ _ _ _ (Or.inl ⟨by have e := hB.1; omega, rfl⟩) (fun _ _ _ => rfl)
  · intro (i2 : 0 ≤ x2) (i3 : (M 50 4) ≤ x2)
    show post (some (0, 0, (-1), (-1), (-1))) M
    exact k _ _ _ _ (Or.inl ⟨by have e := hB.1; omega, rfl⟩) (fun _ _ _ => rfl)
  · intro (i4 : 0 ≤ x2) (i5 : x2 < (M 50 4))
    refine And.intro ?_ ?_
    · intro (c6 : x3 < 0)
      show post (some (0, 0, (-1), (-1), (-1))) M
      exact k _ _ _ _ (Or.inl ⟨by have e := hB.1; omega, rfl⟩) (fun _ _ _ => rfl)
    · intro (c6 : 0 ≤ x3)
      refine And.intro ?_ ?_
      · intro (c7 : x3 ≤ 360)
        show xa_C (xl_I _) A h0 _ 68 [(2, 0, 0, 0, 0), (0, 0, (-2147483648), 2147483647, x1)] M _
        refine cx_68t hM0 hC0 ?_
        intro v101 M102 (i8 : tu_H N0 x1 v101 M102) (i9 : tu_G M M102)
        refine And.intro ?_ ?_
        · intro (c10 : v101 = 0)
          have nB4 := hB.1
          rw [c10] at i8
          obtain ⟨hs0, nL⟩ := tu_H0 i8
          obtain ⟨ax, N9, t1, t2, t3, t4, t5, t6, t7⟩ := tu_S0 hs0
          obtain ⟨⟨f1, f2⟩, f3, f4⟩ := hB.2.2 x2 (by omega) (by omega)
          have n11 := hB.2.1
          have e70 : M102 51 x2 = N0 70 x2 := (i9 51 x2 (by omega)).trans f1
          have e71 : M102 52 x2 = N0 71 x2 := (i9 52 x2 (by omega)).trans f2
          have nL2 : M102 14 x1 ≤ 1000000000 := by
            unfold tu_L at nL
            omega
          have w4 := tw_w4 (D := M102 14 x1) (l := M102 52 x2) (by omega) (by rw [e71]; exact f4)
          show xa_C (xl_I _) A h0 _ 165 [(2, 0, 0, 0, 0), (0, 0, (-2147483648), 2147483647, x1), (0, 0, (-2147483648), 2147483647, x2)] M102 _
          refine cx_165g_50 (by omega) (by omega) nL t6.1 e70 e71 (by omega) (by omega) ?_
          intro g103 (i11 : g103 = ((M102 13 x1).natAbs : Int) * N0 71 x2 - M102 14 x1 * N0 70 x2) (i12 : -2000000000000 ≤ g103 ∧ g103 ≤ 2000000000000)
          have w3 := tw_w3 i12 (show 0 ≤ x3 ∧ x3 ≤ 2000 by omega)
          show xa_C (xl_I _) A h0 _ 56 [(1, 0, (-9223372036854775808), 9223372036854775807, g103)] M102 _
          refine ct_abs (lo := 0) (hi := 2000000000000) (show -9223372036854775808 < g103 by omega) (fun a104 h105 => ⟨by omega, ?_⟩)
          refine And.intro ?_ ?_
          · intro (c13 : ¬ (a104 * 360) = 0)
            show xa_C (xl_I _) A h0 _ 51 [(2, 12, 0, 0, 0), (0, 0, (-2147483648), 2147483647, x1)] M102 _
            refine cx_51_12 (show 0 ≤ x1 ∧ x1 < 10 by omega) ?_
            show xa_C (xl_I _) A h0 _ 64 [(2, 50, 0, 0, 0), (0, 0, (-2147483648), 2147483647, x2)] M102 _
            refine cx_64_50 (show 0 ≤ x2 ∧ x2 < 8 by omega) ?_
            show xa_C (xl_I _) A h0 _ 21 [(1, 0, (-9223372036854775808), 9223372036854775807, xa_w64 ((xa_w64 ((M102 14 x1) * (M102 52 x2))) * x3)), (1, 0, 0, 720000000000000, a104 * 360)] M102 _
            refine cx_21t rfl (show 1 ≤ (a104 * 360) ∧ (a104 * 360) ≤ 9223372036854775807 by omega) ?_
            refine And.intro ?_ ?_
            · intro (c14 : (xa_w64 (((xa_w64 ((xa_w64 ((M102 14 x1) * (M102 52 x2))) * x3)).tdiv (a104 * 360)) + 1)) ≤ 2000)
              show post (some (0, 0, (-2147483648), 2147483647, xa_w32 (xa_w64 (((xa_w64 ((xa_w64 ((M102 14 x1) * (M102 52 x2))) * x3)).tdiv (a104 * 360)) + 1)))) M102
              refine k _ _ _ _ (Or.inr ⟨⟨by have e := hB.1; omega, by omega⟩, tw_A_to hs0 (fun N _ _ _ h8 _ => Or.inr ⟨fun e => nL ((tw_Lc h8).mpr e), by rw [← h8.2]; exact t6.1, ?_⟩)⟩) (fun q j h1 => i9 q j h1)
              have ge : tw_gp N0 x1 x2 N = g103 := by
                unfold tw_gp
                rw [i11, h8.1, h8.2]
              rw [ge, ← h105, ← h8.2, ← e71]
              obtain ⟨y1, y2⟩ := tw_yr (G := a104 * 360) (P := M102 14 x1 * M102 52 x2) (c := x3) w4.2 (by omega) (by omega)
              rw [w4.1, y1] at c14
              rw [w4.1, y1, xa_w32_id (by omega) (by omega)]
              exact Or.inr ⟨by omega, Or.inr ⟨c14, rfl⟩⟩
            · intro (c14 : 2000 < (xa_w64 (((xa_w64 ((xa_w64 ((M102 14 x1) * (M102 52 x2))) * x3)).tdiv (a104 * 360)) + 1)))
              show post (some (0, 0, (-6), (-6), (-6))) M102
              refine k _ _ _ _ (Or.inr ⟨⟨by have e := hB.1; omega, by omega⟩, tw_A_to hs0 (fun N _ _ _ h8 _ => Or.inr ⟨fun e => nL ((tw_Lc h8).mpr e), by rw [← h8.2]; exact t6.1, ?_⟩)⟩) (fun q j h1 => i9 q j h1)
              have ge : tw_gp N0 x1 x2 N = g103 := by
                unfold tw_gp
                rw [i11, h8.1, h8.2]
              rw [ge, ← h105, ← h8.2, ← e71]
              obtain ⟨y1, y2⟩ := tw_yr (G := a104 * 360) (P := M102 14 x1 * M102 52 x2) (c := x3) w4.2 (by omega) (by omega)
              rw [w4.1, y1] at c14
              exact Or.inr ⟨by omega, Or.inl ⟨c14, rfl⟩⟩
          · intro (c13 : (a104 * 360) = 0)
            show post (some (0, 0, (-6), (-6), (-6))) M102
            refine k _ _ _ _ (Or.inr ⟨⟨by have e := hB.1; omega, by omega⟩, tw_A_to hs0 (fun N _ _ _ h8 _ => Or.inr ⟨fun e => nL ((tw_Lc h8).mpr e), by rw [← h8.2]; exact t6.1, ?_⟩)⟩) (fun q j h1 => i9 q j h1)
            have ge : tw_gp N0 x1 x2 N = g103 := by
              unfold tw_gp
              rw [i11, h8.1, h8.2]
            rw [ge, ← h105, ← h8.2, ← e71]
            exact Or.inl ⟨by omega, rfl⟩
        · intro (c10 : ¬ v101 = 0)
          show post (some (0, 0, (-5), 0, v101)) M102
          exact k _ _ _ _ (Or.inr ⟨⟨by have e := hB.1; omega, by omega⟩, tw_Hn i8 (by omega) (fun N h => Or.inl ⟨h, rfl⟩)⟩) (fun q j h1 => i9 q j h1)
      · intro (c7 : 360 < x3)
        show post (some (0, 0, (-1), (-1), (-1))) M
        exact k _ _ _ _ (Or.inl ⟨by have e := hB.1; omega, rfl⟩) (fun _ _ _ => rfl)
theorem rw_166_55 {A : Nat → Nat} {h0 : g_H} {d : Nat} {M : xa_M} {post : Option xa_V → xa_M → Prop} {l1 u1 l2 u2 l3 u3 x1 x2 x3 : Int} {N0 : xa_M} (hM0 : tu_M N0) (hC0 : tu_C M N0) (hB : tk_B 55 M N0) (k : ∀ (lo hi v : Int) (M1 : xa_M), tw_P ((0 ≤ x2 ∧ x2 < N0 60 11) ∧ (0 ≤ x3 ∧ x3 ≤ 360)) N0 x1 v (tw_oT tw_oC N0 x1 x2 x3) → (∀ (q : Nat) (j : Int), ¬ (12 ≤ q ∧ q ≤ 14) → M1 q j = M q j) → post (some (0, 0, lo, hi, v)) M1) : xa_C (xl_I true) A h0 (d + 9) 166 [(2, 0, 0, 0, 0), (0, 0, l1, u1, x1), (0, 0, l2, u2, x2), (0, 0, l3, u3, x3)] M post := by
  refine xa_C_arg [(2, 0, 0, 0, 0), (0, 0, (-2147483648), 2147483647, x1), (0, 0, (-2147483648), 2147483647, x2), (0, 0, (-2147483648), 2147483647, x3)] (xa_svR (xa_svI (fun _ _ _ _ => by omega) (xa_svI (fun _ _ _ _ => by omega) (xa_svI (fun _ _ _ _ => by omega) (xa_sv0))))) ?_
  refine xa_meth (Q0 := (9, 1, false, 0, 0, 11)) (by decide +kernel) ⟨rfl, rfl⟩ (full := s_c_166) rfl rfl ?_
  intro hM hv Q hgo
  refine hgo.1 54 [] 0 _ _ _ ?_
  show xa_C (xl_I _) A h0 _ 87 [(2, 55, 0, 0, 0), (0, 0, (-2147483648), 2147483647, x2)] M _
  refine cx_87_55 ?_ ?_ ?_
  · intro (i1 : x2 < 0)
    show post (some (0, 0, (-1), (-1), (-1))) M
    exact k _ _ _ _ (Or.inl ⟨by have e := hB.1; omega, rfl⟩) (fun _ _ _ => rfl)
  · intro (i2 : 0 ≤ x2) (i3 : (M 55 4) ≤ x2)
    show post (some (0, 0, (-1), (-1), (-1))) M
    exact k _ _ _ _ (Or.inl ⟨by have e := hB.1; omega, rfl⟩) (fun _ _ _ => rfl)
  · intro (i4 : 0 ≤ x2) (i5 : x2 < (M 55 4))
    refine And.intro ?_ ?_
    · intro (c6 : x3 < 0)
      show post (some (0, 0, (-1), (-1), (-1))) M
      exact k _ _ _ _ (Or.inl ⟨by have e := hB.1; omega, rfl⟩) (fun _ _ _ => rfl)
    · intro (c6 : 0 ≤ x3)
      refine And.intro ?_ ?_
      · intro (c7 : x3 ≤ 360)
        show xa_C (xl_I _) A h0 _ 68 [(2, 0, 0, 0, 0), (0, 0, (-2147483648), 2147483647, x1)] M _
        refine cx_68t hM0 hC0 ?_
        intro v101 M102 (i8 : tu_H N0 x1 v101 M102) (i9 : tu_G M M102)
        refine And.intro ?_ ?_
        · intro (c10 : v101 = 0)
          have nB4 := hB.1
          rw [c10] at i8
          obtain ⟨hs0, nL⟩ := tu_H0 i8
          obtain ⟨ax, N9, t1, t2, t3, t4, t5, t6, t7⟩ := tu_S0 hs0
          obtain ⟨⟨f1, f2⟩, f3, f4⟩ := hB.2.2 x2 (by omega) (by omega)
          have n11 := hB.2.1
          have e70 : M102 56 x2 = N0 70 x2 := (i9 56 x2 (by omega)).trans f1
          have e71 : M102 57 x2 = N0 71 x2 := (i9 57 x2 (by omega)).trans f2
          have nL2 : M102 14 x1 ≤ 1000000000 := by
            unfold tu_L at nL
            omega
          have w4 := tw_w4 (D := M102 14 x1) (l := M102 57 x2) (by omega) (by rw [e71]; exact f4)
          show xa_C (xl_I _) A h0 _ 165 [(2, 0, 0, 0, 0), (0, 0, (-2147483648), 2147483647, x1), (0, 0, (-2147483648), 2147483647, x2)] M102 _
          refine cx_165g_55 (by omega) (by omega) nL t6.1 e70 e71 (by omega) (by omega) ?_
          intro g103 (i11 : g103 = ((M102 13 x1).natAbs : Int) * N0 71 x2 - M102 14 x1 * N0 70 x2) (i12 : -2000000000000 ≤ g103 ∧ g103 ≤ 2000000000000)
          have w3 := tw_w3 i12 (show 0 ≤ x3 ∧ x3 ≤ 2000 by omega)
          show xa_C (xl_I _) A h0 _ 56 [(1, 0, (-9223372036854775808), 9223372036854775807, g103)] M102 _
          refine ct_abs (lo := 0) (hi := 2000000000000) (show -9223372036854775808 < g103 by omega) (fun a104 h105 => ⟨by omega, ?_⟩)
          refine And.intro ?_ ?_
          · intro (c13 : ¬ (a104 * 360) = 0)
            show xa_C (xl_I _) A h0 _ 51 [(2, 12, 0, 0, 0), (0, 0, (-2147483648), 2147483647, x1)] M102 _
            refine cx_51_12 (show 0 ≤ x1 ∧ x1 < 10 by omega) ?_
            show xa_C (xl_I _) A h0 _ 64 [(2, 55, 0, 0, 0), (0, 0, (-2147483648), 2147483647, x2)] M102 _
            refine cx_64_55 (show 0 ≤ x2 ∧ x2 < 8 by omega) ?_
            show xa_C (xl_I _) A h0 _ 21 [(1, 0, (-9223372036854775808), 9223372036854775807, xa_w64 ((xa_w64 ((M102 14 x1) * (M102 57 x2))) * x3)), (1, 0, 0, 720000000000000, a104 * 360)] M102 _
            refine cx_21t rfl (show 1 ≤ (a104 * 360) ∧ (a104 * 360) ≤ 9223372036854775807 by omega) ?_
            refine And.intro ?_ ?_
            · intro (c14 : (xa_w64 (((xa_w64 ((xa_w64 ((M102 14 x1) * (M102 57 x2))) * x3)).tdiv (a104 * 360)) + 1)) ≤ 2000)
              show post (some (0, 0, (-2147483648), 2147483647, xa_w32 (xa_w64 (((xa_w64 ((xa_w64 ((M102 14 x1) * (M102 57 x2))) * x3)).tdiv (a104 * 360)) + 1)))) M102
              refine k _ _ _ _ (Or.inr ⟨⟨by have e := hB.1; omega, by omega⟩, tw_A_to hs0 (fun N _ _ _ h8 _ => Or.inr ⟨fun e => nL ((tw_Lc h8).mpr e), by rw [← h8.2]; exact t6.1, ?_⟩)⟩) (fun q j h1 => i9 q j h1)
              have ge : tw_gp N0 x1 x2 N = g103 := by
                unfold tw_gp
                rw [i11, h8.1, h8.2]
              rw [ge, ← h105, ← h8.2, ← e71]
              obtain ⟨y1, y2⟩ := tw_yr (G := a104 * 360) (P := M102 14 x1 * M102 57 x2) (c := x3) w4.2 (by omega) (by omega)
              rw [w4.1, y1] at c14
              rw [w4.1, y1, xa_w32_id (by omega) (by omega)]
              exact Or.inr ⟨by omega, Or.inr ⟨c14, rfl⟩⟩
            · intro (c14 : 2000 < (xa_w64 (((xa_w64 ((xa_w64 ((M102 14 x1) * (M102 57 x2))) * x3)).tdiv (a104 * 360)) + 1)))
              show post (some (0, 0, (-6), (-6), (-6))) M102
              refine k _ _ _ _ (Or.inr ⟨⟨by have e := hB.1; omega, by omega⟩, tw_A_to hs0 (fun N _ _ _ h8 _ => Or.inr ⟨fun e => nL ((tw_Lc h8).mpr e), by rw [← h8.2]; exact t6.1, ?_⟩)⟩) (fun q j h1 => i9 q j h1)
              have ge : tw_gp N0 x1 x2 N = g103 := by
                unfold tw_gp
                rw [i11, h8.1, h8.2]
              rw [ge, ← h105, ← h8.2, ← e71]
              obtain ⟨y1, y2⟩ := tw_yr (G := a104 * 360) (P := M102 14 x1 * M102 57 x2) (c := x3) w4.2 (by omega) (by omega)
              rw [w4.1, y1] at c14
              exact Or.inr ⟨by omega, Or.inl ⟨c14, rfl⟩⟩
          · intro (c13 : (a104 * 360) = 0)
            show post (some (0, 0, (-6), (-6), (-6))) M102
            refine k _ _ _ _ (Or.inr ⟨⟨by have e := hB.1; omega, by omega⟩, tw_A_to hs0 (fun N _ _ _ h8 _ => Or.inr ⟨fun e => nL ((tw_Lc h8).mpr e), by rw [← h8.2]; exact t6.1, ?_⟩)⟩) (fun q j h1 => i9 q j h1)
            have ge : tw_gp N0 x1 x2 N = g103 := by
              unfold tw_gp
              rw [i11, h8.1, h8.2]
            rw [ge, ← h105, ← h8.2, ← e71]
            exact Or.inl ⟨by omega, rfl⟩
        · intro (c10 : ¬ v101 = 0)
          show post (some (0, 0, (-5), 0, v101)) M102
          exact k _ _ _ _ (Or.inr ⟨⟨by have e := hB.1; omega, by omega⟩, tw_Hn i8 (by omega) (fun N h => Or.inl ⟨h, rfl⟩)⟩) (fun q j h1 => i9 q j h1)
      · intro (c7 : 360 < x3)
        show post (some (0, 0, (-1), (-1), (-1))) M
        exact k _ _ _ _ (Or.inl ⟨by have e := hB.1; omega, rfl⟩) (fun _ _ _ => rfl)
theorem rw_166 {b : Bool} {A : Nat → Nat} {h0 : g_H} {d : Nat} {M : xa_M} {post : Option xa_V → xa_M → Prop} {l1 u1 l2 u2 l3 u3 x1 x2 x3 : Int} {N0 : xa_M} (hM0 : tu_M N0) (hC0 : tu_C M N0) (hB : tk_B (bk_p b) M N0) (k : ∀ (lo hi v : Int) (M1 : xa_M), tw_P ((0 ≤ x2 ∧ x2 < N0 60 11) ∧ (0 ≤ x3 ∧ x3 ≤ 360)) N0 x1 v (tw_oT tw_oC N0 x1 x2 x3) → (∀ (q : Nat) (j : Int), ¬ (12 ≤ q ∧ q ≤ 14) → M1 q j = M q j) → post (some (0, 0, lo, hi, v)) M1) : xa_C (xl_I b) A h0 (d + 9) 166 [(2, 0, 0, 0, 0), (0, 0, l1, u1, x1), (0, 0, l2, u2, x2), (0, 0, l3, u3, x3)] M post := by
  cases b
  · exact rw_166_50 hM0 hC0 hB k
  · exact rw_166_55 hM0 hC0 hB k
theorem rw_p62 (A : Nat → Nat) (cmp : Bool) : iv_pair (rw_J A) A 62 233 [] cmp false := rw_armV (fun W b h as M hJ hM hInv hs hR hz => by
  obtain rfl := iv_sp0 hs
  have b0 := xm_f0 (xa_H_Mok hM)
  have b6 := xm_f6 (xa_H_Mok hM)
  have r1 : iv_num h 1 9 = M 60 0 := hR.1.1
  have r2 : iv_num h 1 10 = M 60 6 := hR.1.2.1
  have r3 : ∀ i, 0 ≤ i → i < 14 → iv_num h 2 i = M 61 i ∧ iv_num h 3 i = M 62 i ∧ iv_num h 5 i = M 64 i ∧ iv_num h 6 i = M 65 i ∧ iv_num h 4 i = M 63 i := hR.1.2.2.1
  have r4 : ∀ i, 0 ≤ i → i < 16 → iv_num h 7 i = M 66 i ∧ iv_num h 8 i = M 67 i := hR.1.2.2.2
  have hS := hR.2
  have hMk := xa_H_Mok hM
  have hT := tu_M_of hMk hInv
  have hr := xm_rng_I hMk hInv
  have hC0 : tu_C (iv_num h) M := ⟨r2, r4, fun w w0 w1 => ⟨(r3 w w0 w1).2.2.1, (r3 w w0 w1).2.2.2.2⟩⟩
  have hc := rw_62 (b := b) (A := A) (h0 := h) (d := 53) (M := iv_num h) (N0 := M)   (post := fun o M1 => ∃ lo hi n, o = some (0, 0, lo, hi, n) ∧ (tw_62 M n ∧ ∀ (q : Nat) (j : Int), ¬ (12 ≤ q ∧ q ≤ 14) → M1 q j = iv_num h q j)) hT hC0 (fun lo hi n M1 x1 x2 => ⟨lo, hi, n, rfl, x1, x2⟩)
  have hm := fun (h1 : g_H) => rz_fx (j := 233) (by decide) (xw_ms_jamsV (A := A) (h0 := h1) (d := 55) (M := M)   (post := fun o M2 => M2 60 20 = M 60 20 → (∃ lo hi n, o = some (0, 0, lo, hi, n) ∧ (tw_62 M n ∧ xw_cor M M2 ∧ M2 60 20 = M 60 20)) ∧ xm_Inv M2) hInv (fun o M2 x1 x2 x3 => by
    obtain ⟨lo, hi, n, rfl, x1⟩ := x1
    exact ⟨⟨lo, hi, n, rfl, x1, x2, x3⟩, xw_Inv_cor x2 hInv⟩))
  refine ⟨[(2, 0, 0, 0, 0)], [(2, 60, 0, 0, 0)], _, _, ⟨rfl, trivial⟩, ⟨rfl, trivial⟩, fun n n' M1 M2 h1 h2 => ⟨fun _ => tw_62_one hr h1.1 h2.1, fun x => h2.2.1 104 x (by unfold xw_scr; omega), fun x => h2.2.1 105 x (by unfold xw_scr; omega), tw_lmR hR (fun q j g _ => h1.2 q j g) (xw_to h2.2.1), rw_I_k hz (h1.2 48 1 (by omega)) h2.2.2 (fun i _ _ => h1.2 49 i (by omega)) (fun i i0 i1 => xw_74 h2.2.1 i0 (by have b20 := xm_f20 hMk; omega))⟩, hc, hm⟩)
theorem rw_p166 (A : Nat → Nat) (cmp : Bool) : iv_pair (rw_J A) A 166 277 [0, 0, 0] cmp false := rw_armV (fun W b h as M hJ hM hInv hs hR hz => by
  obtain ⟨m1, ys, rfl, -, hs⟩ := iv_spc hs
  obtain ⟨m2, ys, rfl, -, hs⟩ := iv_spc hs
  obtain ⟨m3, ys, rfl, -, hs⟩ := iv_spc hs
  obtain rfl := iv_sp0 hs
  have b0 := xm_f0 (xa_H_Mok hM)
  have b6 := xm_f6 (xa_H_Mok hM)
  have r1 : iv_num h 1 9 = M 60 0 := hR.1.1
  have r2 : iv_num h 1 10 = M 60 6 := hR.1.2.1
  have r3 : ∀ i, 0 ≤ i → i < 14 → iv_num h 2 i = M 61 i ∧ iv_num h 3 i = M 62 i ∧ iv_num h 5 i = M 64 i ∧ iv_num h 6 i = M 65 i ∧ iv_num h 4 i = M 63 i := hR.1.2.2.1
  have r4 : ∀ i, 0 ≤ i → i < 16 → iv_num h 7 i = M 66 i ∧ iv_num h 8 i = M 67 i := hR.1.2.2.2
  have hS := hR.2
  have hMk := xa_H_Mok hM
  have hT := tu_M_of hMk hInv
  have hr := xm_rng_I hMk hInv
  have hC0 : tu_C (iv_num h) M := ⟨r2, r4, fun w w0 w1 => ⟨(r3 w w0 w1).2.2.1, (r3 w w0 w1).2.2.2.2⟩⟩
  obtain ⟨s1, s2, s3, s4⟩ := lm_Sx.mp hR.2.1
  have b11 := xm_f11 hMk
  have hB : tk_B (bk_p b) (iv_num h) M := ⟨s3, b11, fun p p0 p1 => by
    obtain ⟨g1, g2, -⟩ := s4 p p0 (by omega) p1
    have t1 := xm_t70 hMk p p0 (by omega)
    have t2 := xm_t71 hMk p p0 (by omega)
    have t3 := hInv.2.2.1 p p0 p1
    exact ⟨⟨g1, g2⟩, by omega, by omega⟩⟩
  have hb2 : ∀ p, 0 ≤ p → p < M 60 11 → 0 ≤ M 70 p ∧ 1 ≤ M 71 p := fun p p0 p1 => by
    have t3 := hB.2.2 p p0 p1
    omega
  have hc := rw_166 (b := b) (A := A) (h0 := h) (d := 51) (M := iv_num h) (N0 := M) (l1 := -2147483648) (u1 := 2147483647) (l2 := -2147483648) (u2 := 2147483647) (l3 := -2147483648) (u3 := 2147483647) (x1 := m1.toInt) (x2 := m2.toInt) (x3 := m3.toInt) (post := fun o M1 => ∃ lo hi n, o = some (0, 0, lo, hi, n) ∧ (tw_P ((0 ≤ m2.toInt ∧ m2.toInt < M 60 11) ∧ (0 ≤ m3.toInt ∧ m3.toInt ≤ 360)) M m1.toInt n (tw_oT tw_oC M m1.toInt m2.toInt m3.toInt) ∧ ∀ (q : Nat) (j : Int), ¬ (12 ≤ q ∧ q ≤ 14) → M1 q j = iv_num h q j)) hT hC0 hB (fun lo hi n M1 x1 x2 => ⟨lo, hi, n, rfl, x1, x2⟩)
  have hm := fun (h1 : g_H) => rz_fx (j := 277) (by decide) (xw_ms_offV (A := A) (h0 := h1) (d := 53) (M := M) (l1 := -2147483648) (u1 := 2147483647) (l2 := -2147483648) (u2 := 2147483647) (l3 := -2147483648) (u3 := 2147483647) (a := m1.toInt) (b := m2.toInt) (c := m3.toInt) (post := fun o M2 => M2 60 20 = M 60 20 → (∃ lo hi n, o = some (0, 0, lo, hi, n) ∧ (tw_P ((0 ≤ m2.toInt ∧ m2.toInt < M 60 11) ∧ (0 ≤ m3.toInt ∧ m3.toInt ≤ 360)) M m1.toInt n (tw_oT tw_oR M m1.toInt m2.toInt m3.toInt) ∧ xw_cor M M2 ∧ M2 60 20 = M 60 20)) ∧ xm_Inv M2) hInv (fun o M2 x1 x2 x3 => by
    obtain ⟨lo, hi, n, rfl, x1⟩ := x1
    exact ⟨⟨lo, hi, n, rfl, x1, x2, x3⟩, xw_Inv_cor x2 hInv⟩))
  refine ⟨[(2, 0, 0, 0, 0), (0, 0, -2147483648, 2147483647, m1.toInt), (0, 0, -2147483648, 2147483647, m2.toInt), (0, 0, -2147483648, 2147483647, m3.toInt)], [(2, 60, 0, 0, 0), (0, 0, -2147483648, 2147483647, m1.toInt), (0, 0, -2147483648, 2147483647, m2.toInt), (0, 0, -2147483648, 2147483647, m3.toInt)], _, _, ⟨rfl, iv_i m1, iv_i m2, iv_i m3, trivial⟩, ⟨rfl, iv_i m1, iv_i m2, iv_i m3, trivial⟩, fun n n' M1 M2 h1 h2 => ⟨fun _ => tw_o2 hr hb2 h1.1 h2.1, fun x => h2.2.1 104 x (by unfold xw_scr; omega), fun x => h2.2.1 105 x (by unfold xw_scr; omega), tw_lmR hR (fun q j g _ => h1.2 q j g) (xw_to h2.2.1), rw_I_k hz (h1.2 48 1 (by omega)) h2.2.2 (fun i _ _ => h1.2 49 i (by omega)) (fun i i0 i1 => xw_74 h2.2.1 i0 (by have b20 := xm_f20 hMk; omega))⟩, hc, hm⟩)
theorem rw_p99 (A : Nat → Nat) (cmp : Bool) : iv_pair (rw_J A) A 99 244 [0, 0, 0] cmp false := rw_armV (fun W b h as M hJ hM hInv hs hR hz => by
  obtain ⟨m1, ys, rfl, -, hs⟩ := iv_spc hs
  obtain ⟨m2, ys, rfl, -, hs⟩ := iv_spc hs
  obtain ⟨m3, ys, rfl, -, hs⟩ := iv_spc hs
  obtain rfl := iv_sp0 hs
  have b0 := xm_f0 (xa_H_Mok hM)
  have b6 := xm_f6 (xa_H_Mok hM)
  have r1 : iv_num h 1 9 = M 60 0 := hR.1.1
  have r2 : iv_num h 1 10 = M 60 6 := hR.1.2.1
  have r3 : ∀ i, 0 ≤ i → i < 14 → iv_num h 2 i = M 61 i ∧ iv_num h 3 i = M 62 i ∧ iv_num h 5 i = M 64 i ∧ iv_num h 6 i = M 65 i ∧ iv_num h 4 i = M 63 i := hR.1.2.2.1
  have r4 : ∀ i, 0 ≤ i → i < 16 → iv_num h 7 i = M 66 i ∧ iv_num h 8 i = M 67 i := hR.1.2.2.2
  have hS := hR.2
  obtain ⟨s1, s2, s3, s4⟩ := lm_Sx.mp hR.2.1
  have hMk := xa_H_Mok hM
  have b11 := xm_f11 hMk
  have hT := tk_M_of hMk hInv
  have hRc : tk_R (iv_num h) M := ⟨r1, r2, fun i i0 i1 => by
    obtain ⟨g1, g2, g3, g4, -⟩ := r3 i i0 i1
    exact ⟨g1, g2, g3, g4⟩, r4⟩
  have hB : tk_B (bk_p b) (iv_num h) M := ⟨s3, b11, fun p p0 p1 => by
    obtain ⟨g1, g2, -⟩ := s4 p p0 (by omega) p1
    have t1 := xm_t70 hMk p p0 (by omega)
    have t2 := xm_t71 hMk p p0 (by omega)
    have t3 := hInv.2.2.1 p p0 p1
    exact ⟨⟨g1, g2⟩, by omega, by omega⟩⟩
  have hx : ∃ F : Int → Int, (1 ≤ m1.toInt ∧ m1.toInt ≤ 9) → tk_Y M m1.toInt F := by
    by_cases c : 1 ≤ m1.toInt ∧ m1.toInt ≤ 9
    · obtain ⟨F, hF1, hF2⟩ := wr_ex hMk (X := m1.toInt) (by omega) b6.1 (fun i i0 i1 => tk_AB hT i i0 i1)
      exact ⟨F, fun _ => ⟨hF1, fun a _ _ => hF2 a⟩⟩
    · exact ⟨fun _ => 0, fun h => absurd h c⟩
  obtain ⟨F, hFF⟩ := hx
  have hc := cw_99 (b := b) (A := A) (h0 := h) (d := 53) (M := iv_num h) (N := M) (F := F) (l1 := -2147483648) (u1 := 2147483647) (l2 := -2147483648) (u2 := 2147483647) (l3 := -2147483648) (u3 := 2147483647) (x1 := m1.toInt) (x2 := m2.toInt) (x3 := m3.toInt) (post := fun o M1 => ∃ lo hi n, o = some (0, 0, lo, hi, n) ∧ (tk_T M m1.toInt m2.toInt m3.toInt n (M1 4) ∧ ∀ q j, ¬ q = 4 → ¬ (15 ≤ q ∧ q ≤ 27) → M1 q j = iv_num h q j)) hT hRc hB hFF (fun w w0 w1 => (r3 w w0 w1).2.2.2.2) (fun lo hi n M1 x1 x2 => ⟨lo, hi, n, rfl, x1, x2⟩)
  have hm := fun (h1 : g_H) => rz_fx (j := 244) (by decide) (xw_ms_fitF (A := A) (h0 := h1) (d := 56) (M := M) (l1 := -2147483648) (u1 := 2147483647) (l2 := -2147483648) (u2 := 2147483647) (l3 := -2147483648) (u3 := 2147483647) (a := m1.toInt) (x2 := m2.toInt) (x3 := m3.toInt) (post := fun o M2 => M2 60 20 = M 60 20 → (∃ lo hi n, o = some (0, 0, lo, hi, n) ∧ (tk_T M m1.toInt m2.toInt m3.toInt n (M2 63) ∧ (∀ (q : Nat) (j : Int), ¬ xw_scr q j → ¬ q = 63 → M2 q j = M q j) ∧ M2 60 20 = M 60 20)) ∧ xm_Inv M2) hInv (fun lo hi n M2 x1 x2 x3 x4 => ⟨⟨lo, hi, n, rfl, x1, x2, x4⟩, x3⟩))
  refine ⟨[(2, 0, 0, 0, 0), (0, 0, -2147483648, 2147483647, m1.toInt), (0, 0, -2147483648, 2147483647, m2.toInt), (0, 0, -2147483648, 2147483647, m3.toInt)], [(2, 60, 0, 0, 0), (0, 0, -2147483648, 2147483647, m1.toInt), (0, 0, -2147483648, 2147483647, m2.toInt), (0, 0, -2147483648, 2147483647, m3.toInt)], _, _, ⟨rfl, iv_i m1, iv_i m2, iv_i m3, trivial⟩, ⟨rfl, iv_i m1, iv_i m2, iv_i m3, trivial⟩, fun n n' M1 M2 h1 h2 => ⟨fun _ => (tk_T_one hT h2.1 h1.1).1, fun x => h2.2.1 104 x (by unfold xw_scr; omega) (by decide), fun x => h2.2.1 105 x (by unfold xw_scr; omega) (by decide), ?_, rw_I_k hz (h1.2 48 1 (by decide) (by omega)) h2.2.2 (fun i _ _ => h1.2 49 i (by decide) (by omega)) (fun i i0 i1 => h2.2.1 74 i (by have b20 := xm_f20 hMk; unfold xw_scr; omega) (by decide))⟩, hc, hm⟩
  exact lm_R_tk hR (fun q j hC hq h4 => h1.2 q j h4 (by first | (have t9 := lm_Cq hC; omega) | (unfold lm_C at hC; omega))) (fun q j hC hq h63 => h2.2.1 q j (by unfold lm_C at hC; unfold xw_scr; omega) h63) (tk_T_one hT h2.1 h1.1).2)
/-- the roles that may be read only, and the row's numbers -/
def y_Rw : y_R := (y_Rr.1.set 51 (true, 1, 16, 0, [(1, (-9223372036854775808), 9223372036854775807, 0, 0, 0, 0), (1, (-9223372036854775808), 9223372036854775807, 0, 0, 0, 0), (1, (-9223372036854775808), 9223372036854775807, 0, 0, 0, 0)]), y_Rr.2)
theorem y_Rw_ok : y_Rok y_Rw := y_RokB_ok (by decide +kernel)
theorem y_Rw_ro : y_roB y_Rc y_Rw = true := by decide +kernel
def y_Kw : Nat → y_Call := y_K y_Rw s_ft s_mi s_codes y_An 100000 y_hand
theorem y_Kw_ok (d : Nat) : y_CS y_Rw (y_Kw d) (g_run d) := y_K_ok y_Rw_ok s_ft_ok s_mi_ok s_codes_ok (y_hand_ok y_Rw) d
theorem y_sw_106 : (y_Kw 60 106 [(2, 0, 0, 0, 0, 0, 0), (0, (-2147483648), 2147483647, 0, 0, 0, 0)] []).isSome = true := by decide +kernel
theorem y_Rw_51 : y_Rw.1[51]? = some (true, 1, 16, 0, [(1, (-9223372036854775808), 9223372036854775807, 0, 0, 0, 0), (1, (-9223372036854775808), 9223372036854775807, 0, 0, 0, 0), (1, (-9223372036854775808), 9223372036854775807, 0, 0, 0, 0)]) := rfl
theorem y_Rr_51 : y_Rr.1[51]? = some (true, 1, 16, 0, [(1, (-9223372036854775808), 9223372036854775807, 0, 0, 0, 0)]) := rfl
theorem rw_ro {W : y_W} {h h' : g_H} (H : iv_roF y_Rw W h h') : iv_roF y_Rr W h h' := fun q a r b hq hb hv => by
  refine H q a r b hq ?_ hv
  by_cases c : r = 51
  · subst c
    rw [y_Rr_51] at hb
    cases hb
    exact absurd hv (by decide)
  · show (y_Rr.1.set 51 _)[r]? = some b
    rw [List.getElem?_set_ne (fun e => c e.symm)]
    exact hb
theorem rw_x106 {A : Nat → Nat} {W : y_W} {b : Bool} {h : g_H} {as : List Value} (hJ : iv_JW A W b h) (hsp : iv_sp [0] as) : g_run 60 106 (.ref (A 0) :: as) h 0 0 (fun r h' => (∃ v, r = some (.int v)) ∧ (∃ W', W <+: W' ∧ iv_JW A W' b h') ∧ (iv_num h' 48 1 = iv_num h 48 1 ∧ ∀ i : Int, 0 ≤ i → i < 16 → iv_num h' 49 i = iv_num h 49 i) ∧ ∀ M : xa_M, xa_H xm_I A M h h → xa_H xm_I A M h' h') := by
  refine g_run_rt (f_run rz_T_ok _ _ _ _ _ _ _ (fun _ h' => (∃ W', W <+: W' ∧ iv_JW A W' b h') ∧ (iv_num h' 48 1 = iv_num h 48 1 ∧ ∀ i : Int, 0 ≤ i → i < 16 → iv_num h' 49 i = iv_num h 49 i) ∧ ∀ M : xa_M, xa_H xm_I A M h h → xa_H xm_I A M h' h') (by decide +kernel) (f_run iv_T_ok _ _ _ _ _ _ _ (fun _ h' => (∃ W', W <+: W' ∧ iv_JW A W' b h') ∧ (∀ i : Int, 0 ≤ i → i < 16 → iv_num h' 49 i = iv_num h 49 i) ∧ ∀ M : xa_M, xa_H xm_I A M h h → xa_H xm_I A M h' h') (by decide +kernel) (iv_callR y_Rw_ro (y_Kw_ok 60) y_sw_106 hJ.1 (fun β => ⟨⟨0, A 0, rfl, hJ.1.2.1 0 0 rfl⟩, iv_vs_g hsp⟩)) (fun r h' hp hF => ?_)) (fun r h' hp hF => ⟨hp.1, ⟨(rz_fr (iv_iW_inv hJ.1) hF).1, hp.2.1⟩, hp.2.2⟩)) (fun r h' h1 h2 => ⟨iv_rtI (Q := (4, 1, false, 0, 0, 11)) (by decide +kernel) (by decide) h2, h1⟩)
  obtain ⟨W', p1, p2, p3, p4⟩ := hp
  refine ⟨iv_J_c hJ ⟨W', p1, p2, rw_ro p3, p4⟩ hF, fun i i0 i1 => ?_, p4⟩
  obtain ⟨f, e, hf⟩ := p3 49 (A 49) 51 _ (hJ.1.2.1 49 51 rfl) y_Rw_51 (by decide)
  refine iv_num_c ?_
  rw [iv_ctZ e]
  exact hf i.toNat (by show i.toNat < 16; omega)
theorem rw_p106 (A : Nat → Nat) : iv_pair (rw_J A) A 106 247 [0] false false := by
  intro h as hI hs
  obtain ⟨⟨W, b, hJ⟩, hz⟩ := hI
  obtain ⟨M, hM, hInv⟩ := hJ.1.2.2
  have hzM := rw_I_h hJ hM hz
  have b48 := hzM.2.1
  have b20 := xm_f20 (xa_H_Mok hM)
  refine ⟨0, 0, by decide, by decide, g_run_mono (rw_x106 hJ hs) (fun r1 h1 hp => ?_)⟩
  obtain ⟨⟨v1, e1⟩, ⟨W1, -, hJ1⟩, ⟨a1, a2⟩, km⟩ := hp
  have hM1 := km M hM
  obtain ⟨m1, ys, rfl, -, hs⟩ := iv_spc hs
  obtain rfl := iv_sp0 hs
  refine ⟨v1, e1, iv_sh_ok (iv_J_inv ⟨W1, b, hJ1⟩), g_run_rt (iv_mrun hM1 (vs := [(2, 60, 0, 0, 0), (0, 0, -2147483648, 2147483647, m1.toInt)]) (xs := [.ref (A 60), .int m1]) ⟨rfl, iv_i m1, trivial⟩ (rz_fx (j := 247) (by decide) (xw_ms_may (d := 56) (l1 := -2147483648) (u1 := 2147483647) (a := m1.toInt) xm_fd_ok hInv (post := fun o M2 => M2 60 20 = M 60 20 → (xw_cor M M2 ∧ M2 60 20 = M 60 20)) (fun o M2 hc e => ⟨hc, e⟩)))) (fun r2 h2 hp2 hr => ?_)⟩
  obtain ⟨o, M2, ⟨hc, e20⟩, -, hM2⟩ := hp2
  obtain ⟨v2, e2⟩ := iv_rtI (j := 247) (Q := (4, 1, false, 0, 0, 12)) (by decide +kernel) (by decide) hr
  refine ⟨⟨v2, e2, fun h => by cases h⟩, ⟨W1, b, iv_J_m hJ1 hM1 hM2 (xk_cor (xw_to hc)) (xw_Inv_cor hc hInv)⟩, ?_⟩
  have e48 := hzM.1
  exact rw_I_k hzM ((iv_num_h (hM2.2.2 48 (xm_I_none (by omega))) 1).trans a1) ((rw_n60 hM2).trans e20) (fun i i0 i1 => (iv_num_h (hM2.2.2 49 (xm_I_none (by omega))) i).trans (a2 i i0 (by omega))) (fun i i0 i1 => (rw_n74 hM2 i0 (by omega)).trans (xw_74 hc i0 (by omega)))
