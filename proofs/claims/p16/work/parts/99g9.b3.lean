-- reading
set_option maxRecDepth 20000
theorem cx_32 {b : Bool} {A : Nat → Nat} {h0 : g_H} {d : Nat} {M : xa_M} {post : Option xa_V → xa_M → Prop} {l0 u0 l1 u1 : Int} {x1 x2 : Int} (k1 : (x2 < x1) → post (some (0, 0, (-2147483648), 2147483647, x2)) M) (k2 : (x1 ≤ x2) → post (some (0, 0, (-2147483648), 2147483647, x1)) M) : xa_C (xl_I b) A h0 (d + 1) 32 [(0, 0, l0, u0, x1), (0, 0, l1, u1, x2)] M post := by
  refine xa_C_arg [(0, 0, (-2147483648), 2147483647, x1), (0, 0, (-2147483648), 2147483647, x2)] (xa_svI (fun _ _ _ _ => by omega) (xa_svI (fun _ _ _ _ => by omega) (xa_sv0))) ?_
  refine xa_meth (Q0 := (2, 1, false, 0, 0, 14)) (by decide +kernel) ⟨rfl, rfl⟩ (full := s_c_32) rfl rfl ?_
  intro hM hv Q hgo
  refine hgo.1 10 [] 0 _ _ _ ?_
  refine And.intro ?_ ?_
  · intro (c1 : x2 < x1)
    show post (some (0, 0, (-2147483648), 2147483647, x2)) M
    exact k1 c1
  · intro (c1 : x1 ≤ x2)
    show post (some (0, 0, (-2147483648), 2147483647, x1)) M
    exact k2 c1
theorem cx_115_50 {b : Bool} {A : Nat → Nat} {h0 : g_H} {d : Nat} {M : xa_M} {post : Option xa_V → xa_M → Prop} {T : Int → Int} (hT : (∀ i, 0 ≤ i → i < 80 → M 31 i = T i)) (hz : 0 ≤ M 30 1 ∧ M 30 1 ≤ 80) (k : ∀ (r : Int) (M1 : xa_M), (∀ q j, ¬ (q = 50 ∧ 4 ≤ j ∧ j ≤ 7) → ¬ (q = 51 ∨ q = 52 ∨ q = 53) → M1 q j = M q j) → bk_R T (M 30 1) r (M1 51) (M1 52) (M1 53) → (0 ≤ r → M1 50 4 = r) → post (some (0, 0, (-2147483648), 2147483647, r)) M1) : xa_C (xl_I b) A h0 (d + 6) 115 [(2, 50, 0, 0, 0), (2, 30, 0, 0, 0)] M post := by
  refine xa_C_wk ?_
  refine xa_meth (Q0 := (5, 1, false, 0, 0, 0)) (by decide +kernel) ⟨rfl, rfl⟩ (full := s_c_115) rfl rfl ?_
  intro hM hv Q hgo
  have loop : ∀ (e : Int), (1 ≤ e ∧ e ≤ 60 ∧ e ≤ M 30 1) → e = (if M 30 1 ≤ 60 then M 30 1 else 60) → ∀ (n : Nat) (x4 x3 : Int) (M1 : xa_M), 0 ≤ x4 → x4 ≤ 8 → 0 ≤ x3 ∧ x3 ≤ 1 → (∀ q j, ¬ (q = 50 ∧ 4 ≤ j ∧ j ≤ 7) → ¬ (q = 51 ∨ q = 52 ∨ q = 53) → M1 q j = M q j) → (x3 = 1 → x4 ≤ 7) → (x3 = 1 → 0 ≤ M1 50 5 ∧ M1 50 5 ≤ e) → (x3 = 1 → (∀ (ans : Int) (U W N : Int → Int), (∀ i, 0 ≤ i → i < x4 → U i = M1 51 i ∧ W i = M1 52 i ∧ N i = M1 53 i) → bk_B T e (M 30 1) ans U W N (8 - x4).toNat x4 (M1 50 5) → bk_B T e (M 30 1) ans U W N 8 0 0)) → (x3 = 0 → ∃ ans, bk_B T e (M 30 1) ans (M1 51) (M1 52) (M1 53) 8 0 0 ∧ ((0 ≤ M1 50 5 ∧ M1 50 5 ≤ 100) ∧ 0 ≤ M1 50 7 ∧ M1 50 7 ≤ 1) ∧ ((M1 50 7 = 1 ∧ M 30 1 ≤ 60 ∧ ans = M1 50 4 ∧ 0 ≤ ans) ∨ (¬ (M1 50 7 = 1 ∧ M 30 1 ≤ 60) ∧ ans = -1 - M1 50 5 ∧ ans < 0))) → 8 - x4 < (n : Int) → Q 34 [(3, (0, 0, 0, 1, x3)), (4, (0, 0, 0, 8, x4)), (2, (0, 0, 1, 60, e)), (0, (2, 50, 0, 0, 0)), (1, (2, 30, 0, 0, 0))] [] M1 := by
    intro e he3 he4 n
    induction n with
    | zero => intro x4 x3 M1 i0 i1 i2 hk hA0 hA1 hA hB hms; omega
    | succ n ih =>
      intro x4 x3 M1 i0 i1 i2 hk hA0 hA1 hA hB hms
      have e30 : M1 30 1 = M 30 1 := hk 30 1 (by omega) (by omega)
      have hT1 : (∀ i, 0 ≤ i → i < 80 → M1 31 i = T i) := fun i i0 i1 => (hk 31 i (by omega) (by omega)).trans (hT i i0 i1)
      refine hgo.1 57 [34] 34 _ _ _ ?_
      refine And.intro ?_ ?_
      · intro (c1 : 8 ≤ x4)
        refine And.intro ?_ ?_
        · intro (c2 : (M1 50 7) = 0)
          show xa_wk post (some (0, 0, (-2147483648), 2147483647, (-1) - (M1 50 5))) M1
          have z3 : x3 = 0 := by
            clear hA hB
            omega
          obtain ⟨ans, hB1, hB2, hB3⟩ := hB z3
          clear hA hB
          have w1 : xa_w32 ((-1) - (M1 50 5)) = (-1) - (M1 50 5) := xa_w32_id (by omega) (by omega)
          exact xa_wkI ans (by omega) (fun _ _ => by omega) (k ans _ hk (Or.inr ⟨by omega, by rw [← he4]; exact hB1⟩) (fun h => by omega))
        · intro (c2 : ¬ (M1 50 7) = 0)
          refine And.intro ?_ ?_
          · intro (c3 : 60 < (M1 30 1))
            show xa_wk post (some (0, 0, (-2147483648), 2147483647, (-1) - (M1 50 5))) M1
            have z3 : x3 = 0 := by
              clear hA hB
              omega
            obtain ⟨ans, hB1, hB2, hB3⟩ := hB z3
            clear hA hB
            have w1 : xa_w32 ((-1) - (M1 50 5)) = (-1) - (M1 50 5) := xa_w32_id (by omega) (by omega)
            exact xa_wkI ans (by omega) (fun _ _ => by omega) (k ans _ hk (Or.inr ⟨by omega, by rw [← he4]; exact hB1⟩) (fun h => by omega))
          · intro (c3 : (M1 30 1) ≤ 60)
            show xa_wk post (some (0, 0, (-2147483648), 2147483647, M1 50 4)) M1
            have z3 : x3 = 0 := by
              clear hA hB
              omega
            obtain ⟨ans, hB1, hB2, hB3⟩ := hB z3
            clear hA hB
            have w1 : xa_w32 ((-1) - (M1 50 5)) = (-1) - (M1 50 5) := xa_w32_id (by omega) (by omega)
            exact xa_wkI ans (by omega) (fun _ _ => by omega) (k ans _ hk (Or.inr ⟨by omega, by rw [← he4]; exact hB1⟩) (fun h => by omega))
      · intro (c1 : x4 < 8)
        refine And.intro ?_ ?_
        · intro (c4 : x3 = 0)
          refine And.intro ?_ ?_
          · intro (c5 : (M1 50 7) = 0)
            show xa_wk post (some (0, 0, (-2147483648), 2147483647, (-1) - (M1 50 5))) M1
            have z3 : x3 = 0 := by
              clear hA hB
              omega
            obtain ⟨ans, hB1, hB2, hB3⟩ := hB z3
            clear hA hB
            have w1 : xa_w32 ((-1) - (M1 50 5)) = (-1) - (M1 50 5) := xa_w32_id (by omega) (by omega)
            exact xa_wkI ans (by omega) (fun _ _ => by omega) (k ans _ hk (Or.inr ⟨by omega, by rw [← he4]; exact hB1⟩) (fun h => by omega))
          · intro (c5 : ¬ (M1 50 7) = 0)
            refine And.intro ?_ ?_
            · intro (c6 : 60 < (M1 30 1))
              show xa_wk post (some (0, 0, (-2147483648), 2147483647, (-1) - (M1 50 5))) M1
              have z3 : x3 = 0 := by
                clear hA hB
                omega
              obtain ⟨ans, hB1, hB2, hB3⟩ := hB z3
              clear hA hB
              have w1 : xa_w32 ((-1) - (M1 50 5)) = (-1) - (M1 50 5) := xa_w32_id (by omega) (by omega)
              exact xa_wkI ans (by omega) (fun _ _ => by omega) (k ans _ hk (Or.inr ⟨by omega, by rw [← he4]; exact hB1⟩) (fun h => by omega))
            · intro (c6 : (M1 30 1) ≤ 60)
              show xa_wk post (some (0, 0, (-2147483648), 2147483647, M1 50 4)) M1
              have z3 : x3 = 0 := by
                clear hA hB
                omega
              obtain ⟨ans, hB1, hB2, hB3⟩ := hB z3
              clear hA hB
              have w1 : xa_w32 ((-1) - (M1 50 5)) = (-1) - (M1 50 5) := xa_w32_id (by omega) (by omega)
              exact xa_wkI ans (by omega) (fun _ _ => by omega) (k ans _ hk (Or.inr ⟨by omega, by rw [← he4]; exact hB1⟩) (fun h => by omega))
        · intro (c4 : ¬ x3 = 0)
          have z3 : x3 = 1 := by
            clear hA hB
            omega
          have hA2 := hA z3
          have hA3 := hA1 z3
          clear hA hB
          show xa_C (xl_I b) A h0 _ 116 [(2, 50, 0, 0, 0), (2, 30, 0, 0, 0), (0, 0, 1, 60, e), (0, 0, 0, 8, x4)] M1 _
          refine cx_116_50 hT1 (show 0 ≤ e ∧ e ≤ 60 ∧ e ≤ (M1 30 1) ∧ (M1 30 1) ≤ 80 by omega) (show 0 ≤ (M1 50 5) ∧ (M1 50 5) ≤ e by omega) (show 0 ≤ x4 ∧ x4 < 8 by omega) ?_
          intro M105 (i7 : ∀ q j, ¬ (q = 50 ∧ 4 ≤ j ∧ j ≤ 7) → ¬ ((q = 51 ∨ q = 52 ∨ q = 53) ∧ j = x4) → M105 q j = M1 q j) (i8 : bk_L T e (M1 50 5) (M105 50 7) (M105 51 x4) (M105 52 x4) (M105 53 x4) (M105 50 5)) (i9 : M105 50 4 = x4 + 1)
          have hTX : ∀ i, 0 ≤ i → i < 80 → M105 31 i = T i := fun i i0 i1 => (i7 31 i (by omega) (by omega)).trans (hT1 i i0 i1)
          have eX : M105 30 1 = M 30 1 := (i7 30 1 (by omega) (by omega)).trans e30
          have fX : ∀ q j, ¬ (q = 50 ∧ 4 ≤ j ∧ j ≤ 7) → ¬ (q = 51 ∨ q = 52 ∨ q = 53) → M105 q j = M q j := fun q j h1 h2 => (i7 q j h1 (by omega)).trans (hk q j h1 h2)
          have gX : ∀ i, 0 ≤ i → i < x4 → M105 51 i = M1 51 i ∧ M105 52 i = M1 52 i ∧ M105 53 i = M1 53 i := fun i i0 i1 => ⟨i7 51 i (by omega) (by omega), i7 52 i (by omega) (by omega), i7 53 i (by omega) (by omega)⟩
          have lX := bk_L_b i8 (by omega)
          have tX := hTX (M105 50 5)
          have wX : xa_w32 ((M105 50 5) + 1) = (M105 50 5) + 1 := xa_w32_id (by omega) (by omega)
          refine And.intro ?_ ?_
          · intro (c10 : (M105 50 7) = 0)
            show Q 34 [(4, (0, 0, 1, 9, x4 + 1)), (3, (0, 0, 0, 0, 0)), (2, (0, 0, 1, 60, e)), (0, (2, 50, 0, 0, 0)), (1, (2, 30, 0, 0, 0))] [] M105
            have hBB : ∃ ans, bk_B T e (M 30 1) ans (M105 51) (M105 52) (M105 53) 8 0 0 ∧ ((M105 50 7 = 1 ∧ ¬ M105 50 5 < e ∧ M 30 1 ≤ 60 ∧ ans = x4 + 1) ∨ (¬ (M105 50 7 = 1 ∧ ¬ M105 50 5 < e ∧ M 30 1 ≤ 60) ∧ ans = -1 - M105 50 5)) := by
              by_cases z9 : M105 50 7 = 1 ∧ ¬ M105 50 5 < e ∧ M 30 1 ≤ 60
              · exact ⟨x4 + 1, bk_B_end (by omega) (by omega) hA2 gX i8 (Or.inr ⟨z9.1, Or.inr (Or.inl ⟨z9.2.1, z9.2.2, rfl⟩)⟩), Or.inl ⟨z9.1, z9.2.1, z9.2.2, rfl⟩⟩
              · exact ⟨-1 - M105 50 5, bk_B_end (by omega) (by omega) hA2 gX i8 (by omega), Or.inr ⟨z9, rfl⟩⟩
            obtain ⟨ans, hB1, hB2⟩ := hBB
            refine hgo.2.1 34 _ [(3, (0, 0, 0, 1, 0)), (4, (0, 0, 0, 8, x4 + 1)), (2, (0, 0, 1, 60, e)), (0, (2, 50, 0, 0, 0)), (1, (2, 30, 0, 0, 0))] _ _ (xa_subI rfl rfl (fun _ _ _ _ => by omega) (xa_subI rfl rfl (fun _ _ _ _ => by omega) (xa_subI rfl rfl (fun _ _ _ _ => by omega) (xa_subR rfl (xa_subR rfl (xa_sub0)))))) ?_
            refine ih (x4 + 1) 0 _ (by omega) (by omega) (by omega) (fun q j h1 h2 => fX q j h1 h2) (fun h => by omega) (fun h => by omega) (fun h => absurd h (by omega)) (fun _ => ⟨ans, hB1, ?_⟩) (by omega)
            show ((0 ≤ (M105 50 5) ∧ (M105 50 5) ≤ 100) ∧ 0 ≤ (M105 50 7) ∧ (M105 50 7) ≤ 1) ∧ (((M105 50 7) = 1 ∧ M 30 1 ≤ 60 ∧ ans = (M105 50 4) ∧ 0 ≤ ans) ∨ (¬ ((M105 50 7) = 1 ∧ M 30 1 ≤ 60) ∧ ans = -1 - (M105 50 5) ∧ ans < 0))
            omega
          · intro (c10 : ¬ (M105 50 7) = 0)
            refine And.intro ?_ ?_
            · intro (c11 : e ≤ (M105 50 5))
              show Q 34 [(4, (0, 0, 1, 9, x4 + 1)), (3, (0, 0, 0, 0, 0)), (2, (0, 0, 1, 60, e)), (0, (2, 50, 0, 0, 0)), (1, (2, 30, 0, 0, 0))] [] M105
              have hBB : ∃ ans, bk_B T e (M 30 1) ans (M105 51) (M105 52) (M105 53) 8 0 0 ∧ ((M105 50 7 = 1 ∧ ¬ M105 50 5 < e ∧ M 30 1 ≤ 60 ∧ ans = x4 + 1) ∨ (¬ (M105 50 7 = 1 ∧ ¬ M105 50 5 < e ∧ M 30 1 ≤ 60) ∧ ans = -1 - M105 50 5)) := by
                by_cases z9 : M105 50 7 = 1 ∧ ¬ M105 50 5 < e ∧ M 30 1 ≤ 60
                · exact ⟨x4 + 1, bk_B_end (by omega) (by omega) hA2 gX i8 (Or.inr ⟨z9.1, Or.inr (Or.inl ⟨z9.2.1, z9.2.2, rfl⟩)⟩), Or.inl ⟨z9.1, z9.2.1, z9.2.2, rfl⟩⟩
                · exact ⟨-1 - M105 50 5, bk_B_end (by omega) (by omega) hA2 gX i8 (by omega), Or.inr ⟨z9, rfl⟩⟩
              obtain ⟨ans, hB1, hB2⟩ := hBB
              refine hgo.2.1 34 _ [(3, (0, 0, 0, 1, 0)), (4, (0, 0, 0, 8, x4 + 1)), (2, (0, 0, 1, 60, e)), (0, (2, 50, 0, 0, 0)), (1, (2, 30, 0, 0, 0))] _ _ (xa_subI rfl rfl (fun _ _ _ _ => by omega) (xa_subI rfl rfl (fun _ _ _ _ => by omega) (xa_subI rfl rfl (fun _ _ _ _ => by omega) (xa_subR rfl (xa_subR rfl (xa_sub0)))))) ?_
              refine ih (x4 + 1) 0 _ (by omega) (by omega) (by omega) (fun q j h1 h2 => fX q j h1 h2) (fun h => by omega) (fun h => by omega) (fun h => absurd h (by omega)) (fun _ => ⟨ans, hB1, ?_⟩) (by omega)
              show ((0 ≤ (M105 50 5) ∧ (M105 50 5) ≤ 100) ∧ 0 ≤ (M105 50 7) ∧ (M105 50 7) ≤ 1) ∧ (((M105 50 7) = 1 ∧ M 30 1 ≤ 60 ∧ ans = (M105 50 4) ∧ 0 ≤ ans) ∨ (¬ ((M105 50 7) = 1 ∧ M 30 1 ≤ 60) ∧ ans = -1 - (M105 50 5) ∧ ans < 0))
              omega
            · intro (c11 : (M105 50 5) < e)
              show xa_C (xl_I b) A h0 _ 119 [(2, 30, 0, 0, 0), (0, 0, (-2147483648), 2147483647, M105 50 5)] M105 _
              refine cg_119 (show 0 ≤ (M105 30 1) ∧ (M105 30 1) ≤ 80 by omega) ?_ ?_
              · intro (i12 : 0 ≤ (M105 50 5) ∧ (M105 50 5) < (M105 30 1))
                refine And.intro ?_ ?_
                · intro (c13 : ¬ (M105 31 (M105 50 5)) = 59)
                  refine And.intro ?_ ?_
                  · intro (c14 : 0 = 0)
                    show Q 34 [(4, (0, 0, 1, 9, x4 + 1)), (3, (0, 0, 0, 1, 0)), (2, (0, 0, 1, 60, e)), (0, (2, 50, 0, 0, 0)), (1, (2, 30, 0, 0, 0))] [] (xa_up (xa_up M105 50 7 0) 50 5 ((M105 50 5) + 0))
                    have hBB : ∃ ans, bk_B T e (M 30 1) ans (M105 51) (M105 52) (M105 53) 8 0 0 ∧ ((M105 50 7 = 1 ∧ ¬ M105 50 5 < e ∧ M 30 1 ≤ 60 ∧ ans = x4 + 1) ∨ (¬ (M105 50 7 = 1 ∧ ¬ M105 50 5 < e ∧ M 30 1 ≤ 60) ∧ ans = -1 - M105 50 5)) := by
                      by_cases z9 : M105 50 7 = 1 ∧ ¬ M105 50 5 < e ∧ M 30 1 ≤ 60
                      · exact ⟨x4 + 1, bk_B_end (by omega) (by omega) hA2 gX i8 (Or.inr ⟨z9.1, Or.inr (Or.inl ⟨z9.2.1, z9.2.2, rfl⟩)⟩), Or.inl ⟨z9.1, z9.2.1, z9.2.2, rfl⟩⟩
                      · exact ⟨-1 - M105 50 5, bk_B_end (by omega) (by omega) hA2 gX i8 (by omega), Or.inr ⟨z9, rfl⟩⟩
                    obtain ⟨ans, hB1, hB2⟩ := hBB
                    have a1 : (xa_up (xa_up M105 50 7 0) 50 5 ((M105 50 5) + 0)) 51 = M105 51 := funext (fun j => (xa_up_ne (by omega)).trans (xa_up_ne (by omega)))
                    have a2 : (xa_up (xa_up M105 50 7 0) 50 5 ((M105 50 5) + 0)) 52 = M105 52 := funext (fun j => (xa_up_ne (by omega)).trans (xa_up_ne (by omega)))
                    have a3 : (xa_up (xa_up M105 50 7 0) 50 5 ((M105 50 5) + 0)) 53 = M105 53 := funext (fun j => (xa_up_ne (by omega)).trans (xa_up_ne (by omega)))
                    refine hgo.2.1 34 _ [(3, (0, 0, 0, 1, 0)), (4, (0, 0, 0, 8, x4 + 1)), (2, (0, 0, 1, 60, e)), (0, (2, 50, 0, 0, 0)), (1, (2, 30, 0, 0, 0))] _ _ (xa_subI rfl rfl (fun _ _ _ _ => by omega) (xa_subI rfl rfl (fun _ _ _ _ => by omega) (xa_subI rfl rfl (fun _ _ _ _ => by omega) (xa_subR rfl (xa_subR rfl (xa_sub0)))))) ?_
                    refine ih (x4 + 1) 0 _ (by omega) (by omega) (by omega) (fun q j h1 h2 => (xa_up_ne (by omega)).trans ((xa_up_ne (by omega)).trans (fX q j h1 h2))) (fun h => by omega) (fun h => by omega) (fun h => absurd h (by omega)) (fun _ => ⟨ans, by rw [a1, a2, a3]; exact hB1, ?_⟩) (by omega)
                    show ((0 ≤ ((M105 50 5) + 0) ∧ ((M105 50 5) + 0) ≤ 100) ∧ 0 ≤ 0 ∧ 0 ≤ 1) ∧ ((0 = 1 ∧ M 30 1 ≤ 60 ∧ ans = (M105 50 4) ∧ 0 ≤ ans) ∨ (¬ (0 = 1 ∧ M 30 1 ≤ 60) ∧ ans = -1 - ((M105 50 5) + 0) ∧ ans < 0))
                    omega
                  · intro (c14 : ¬ 0 = 0)
                    exfalso
                    omega
                · intro (c13 : (M105 31 (M105 50 5)) = 59)
                  refine And.intro ?_ ?_
                  · intro (c15 : 8 ≤ (x4 + 1))
                    refine And.intro ?_ ?_
                    · intro (c16 : 0 = 0)
                      show Q 34 [(4, (0, 0, 1, 9, x4 + 1)), (3, (0, 0, 0, 1, 0)), (2, (0, 0, 1, 60, e)), (0, (2, 50, 0, 0, 0)), (1, (2, 30, 0, 0, 0))] [] (xa_up (xa_up M105 50 7 0) 50 5 ((M105 50 5) + 0))
                      have hBB : ∃ ans, bk_B T e (M 30 1) ans (M105 51) (M105 52) (M105 53) 8 0 0 ∧ ((M105 50 7 = 1 ∧ ¬ M105 50 5 < e ∧ M 30 1 ≤ 60 ∧ ans = x4 + 1) ∨ (¬ (M105 50 7 = 1 ∧ ¬ M105 50 5 < e ∧ M 30 1 ≤ 60) ∧ ans = -1 - M105 50 5)) := by
                        by_cases z9 : M105 50 7 = 1 ∧ ¬ M105 50 5 < e ∧ M 30 1 ≤ 60
                        · exact ⟨x4 + 1, bk_B_end (by omega) (by omega) hA2 gX i8 (Or.inr ⟨z9.1, Or.inr (Or.inl ⟨z9.2.1, z9.2.2, rfl⟩)⟩), Or.inl ⟨z9.1, z9.2.1, z9.2.2, rfl⟩⟩
                        · exact ⟨-1 - M105 50 5, bk_B_end (by omega) (by omega) hA2 gX i8 (by omega), Or.inr ⟨z9, rfl⟩⟩
                      obtain ⟨ans, hB1, hB2⟩ := hBB
                      have a1 : (xa_up (xa_up M105 50 7 0) 50 5 ((M105 50 5) + 0)) 51 = M105 51 := funext (fun j => (xa_up_ne (by omega)).trans (xa_up_ne (by omega)))
                      have a2 : (xa_up (xa_up M105 50 7 0) 50 5 ((M105 50 5) + 0)) 52 = M105 52 := funext (fun j => (xa_up_ne (by omega)).trans (xa_up_ne (by omega)))
                      have a3 : (xa_up (xa_up M105 50 7 0) 50 5 ((M105 50 5) + 0)) 53 = M105 53 := funext (fun j => (xa_up_ne (by omega)).trans (xa_up_ne (by omega)))
                      refine hgo.2.1 34 _ [(3, (0, 0, 0, 1, 0)), (4, (0, 0, 0, 8, x4 + 1)), (2, (0, 0, 1, 60, e)), (0, (2, 50, 0, 0, 0)), (1, (2, 30, 0, 0, 0))] _ _ (xa_subI rfl rfl (fun _ _ _ _ => by omega) (xa_subI rfl rfl (fun _ _ _ _ => by omega) (xa_subI rfl rfl (fun _ _ _ _ => by omega) (xa_subR rfl (xa_subR rfl (xa_sub0)))))) ?_
                      refine ih (x4 + 1) 0 _ (by omega) (by omega) (by omega) (fun q j h1 h2 => (xa_up_ne (by omega)).trans ((xa_up_ne (by omega)).trans (fX q j h1 h2))) (fun h => by omega) (fun h => by omega) (fun h => absurd h (by omega)) (fun _ => ⟨ans, by rw [a1, a2, a3]; exact hB1, ?_⟩) (by omega)
                      show ((0 ≤ ((M105 50 5) + 0) ∧ ((M105 50 5) + 0) ≤ 100) ∧ 0 ≤ 0 ∧ 0 ≤ 1) ∧ ((0 = 1 ∧ M 30 1 ≤ 60 ∧ ans = (M105 50 4) ∧ 0 ≤ ans) ∨ (¬ (0 = 1 ∧ M 30 1 ≤ 60) ∧ ans = -1 - ((M105 50 5) + 0) ∧ ans < 0))
                      omega
                    · intro (c16 : ¬ 0 = 0)
                      exfalso
                      omega
                  · intro (c15 : (x4 + 1) < 8)
                    refine And.intro ?_ ?_
                    · intro (c17 : 1 = 0)
                      exfalso
                      omega
                    · intro (c17 : ¬ 1 = 0)
                      show Q 34 [(4, (0, 0, 1, 9, x4 + 1)), (3, (0, 0, 0, 1, 1)), (2, (0, 0, 1, 60, e)), (0, (2, 50, 0, 0, 0)), (1, (2, 30, 0, 0, 0))] [] (xa_up (xa_up M105 50 7 1) 50 5 (xa_w32 ((M105 50 5) + 1)))
                      have ok1 : M105 50 7 = 1 := by omega
                      rw [ok1] at i8
                      have nx := bk_B_next (by omega) (by omega) hA2 gX i8 (by omega) (by omega)
                      have a1 : (xa_up (xa_up M105 50 7 1) 50 5 (xa_w32 ((M105 50 5) + 1))) 51 = M105 51 := funext (fun j => (xa_up_ne (by omega)).trans (xa_up_ne (by omega)))
                      have a2 : (xa_up (xa_up M105 50 7 1) 50 5 (xa_w32 ((M105 50 5) + 1))) 52 = M105 52 := funext (fun j => (xa_up_ne (by omega)).trans (xa_up_ne (by omega)))
                      have a3 : (xa_up (xa_up M105 50 7 1) 50 5 (xa_w32 ((M105 50 5) + 1))) 53 = M105 53 := funext (fun j => (xa_up_ne (by omega)).trans (xa_up_ne (by omega)))
                      have a5 : (xa_up (xa_up M105 50 7 1) 50 5 (xa_w32 ((M105 50 5) + 1))) 50 5 = M105 50 5 + 1 := wX
                      refine hgo.2.1 34 _ [(3, (0, 0, 0, 1, 1)), (4, (0, 0, 0, 8, x4 + 1)), (2, (0, 0, 1, 60, e)), (0, (2, 50, 0, 0, 0)), (1, (2, 30, 0, 0, 0))] _ _ (xa_subI rfl rfl (fun _ _ _ _ => by omega) (xa_subI rfl rfl (fun _ _ _ _ => by omega) (xa_subI rfl rfl (fun _ _ _ _ => by omega) (xa_subR rfl (xa_subR rfl (xa_sub0)))))) ?_
                      exact ih (x4 + 1) 1 _ (by omega) (by omega) (by omega) (fun q j h1 h2 => (xa_up_ne (by omega)).trans ((xa_up_ne (by omega)).trans (fX q j h1 h2))) (fun h => by omega) (fun _ => by rw [a5]; omega) (fun _ => by rw [a1, a2, a3, a5]; exact nx) (fun h => absurd h (by omega)) (by omega)
              · intro (i18 : ¬ (0 ≤ (M105 50 5) ∧ (M105 50 5) < (M105 30 1)))
                refine And.intro ?_ ?_
                · intro (c19 : 0 = 0)
                  show Q 34 [(4, (0, 0, 1, 9, x4 + 1)), (3, (0, 0, 0, 1, 0)), (2, (0, 0, 1, 60, e)), (0, (2, 50, 0, 0, 0)), (1, (2, 30, 0, 0, 0))] [] (xa_up (xa_up M105 50 7 0) 50 5 ((M105 50 5) + 0))
                  have hBB : ∃ ans, bk_B T e (M 30 1) ans (M105 51) (M105 52) (M105 53) 8 0 0 ∧ ((M105 50 7 = 1 ∧ ¬ M105 50 5 < e ∧ M 30 1 ≤ 60 ∧ ans = x4 + 1) ∨ (¬ (M105 50 7 = 1 ∧ ¬ M105 50 5 < e ∧ M 30 1 ≤ 60) ∧ ans = -1 - M105 50 5)) := by
                    by_cases z9 : M105 50 7 = 1 ∧ ¬ M105 50 5 < e ∧ M 30 1 ≤ 60
                    · exact ⟨x4 + 1, bk_B_end (by omega) (by omega) hA2 gX i8 (Or.inr ⟨z9.1, Or.inr (Or.inl ⟨z9.2.1, z9.2.2, rfl⟩)⟩), Or.inl ⟨z9.1, z9.2.1, z9.2.2, rfl⟩⟩
                    · exact ⟨-1 - M105 50 5, bk_B_end (by omega) (by omega) hA2 gX i8 (by omega), Or.inr ⟨z9, rfl⟩⟩
                  obtain ⟨ans, hB1, hB2⟩ := hBB
                  have a1 : (xa_up (xa_up M105 50 7 0) 50 5 ((M105 50 5) + 0)) 51 = M105 51 := funext (fun j => (xa_up_ne (by omega)).trans (xa_up_ne (by omega)))
                  have a2 : (xa_up (xa_up M105 50 7 0) 50 5 ((M105 50 5) + 0)) 52 = M105 52 := funext (fun j => (xa_up_ne (by omega)).trans (xa_up_ne (by omega)))
                  have a3 : (xa_up (xa_up M105 50 7 0) 50 5 ((M105 50 5) + 0)) 53 = M105 53 := funext (fun j => (xa_up_ne (by omega)).trans (xa_up_ne (by omega)))
                  refine hgo.2.1 34 _ [(3, (0, 0, 0, 1, 0)), (4, (0, 0, 0, 8, x4 + 1)), (2, (0, 0, 1, 60, e)), (0, (2, 50, 0, 0, 0)), (1, (2, 30, 0, 0, 0))] _ _ (xa_subI rfl rfl (fun _ _ _ _ => by omega) (xa_subI rfl rfl (fun _ _ _ _ => by omega) (xa_subI rfl rfl (fun _ _ _ _ => by omega) (xa_subR rfl (xa_subR rfl (xa_sub0)))))) ?_
                  refine ih (x4 + 1) 0 _ (by omega) (by omega) (by omega) (fun q j h1 h2 => (xa_up_ne (by omega)).trans ((xa_up_ne (by omega)).trans (fX q j h1 h2))) (fun h => by omega) (fun h => by omega) (fun h => absurd h (by omega)) (fun _ => ⟨ans, by rw [a1, a2, a3]; exact hB1, ?_⟩) (by omega)
                  show ((0 ≤ ((M105 50 5) + 0) ∧ ((M105 50 5) + 0) ≤ 100) ∧ 0 ≤ 0 ∧ 0 ≤ 1) ∧ ((0 = 1 ∧ M 30 1 ≤ 60 ∧ ans = (M105 50 4) ∧ 0 ≤ ans) ∨ (¬ (0 = 1 ∧ M 30 1 ≤ 60) ∧ ans = -1 - ((M105 50 5) + 0) ∧ ans < 0))
                  omega
                · intro (c19 : ¬ 0 = 0)
                  exfalso
                  omega

  refine hgo.1 23 [34] 0 _ _ _ ?_
  refine And.intro ?_ ?_
  · intro (c1 : ¬ (M 30 1) = 0)
    show xa_C (xl_I b) A h0 _ 32 [(0, 0, (-2147483648), 2147483647, M 30 1), (0, 0, 60, 60, 60)] (xa_up (xa_up M 50 4 0) 50 5 0) _
    refine cx_32 ?_ ?_
    · intro (i2 : 60 < (M 30 1))
      show Q 34 [(4, (0, 0, 0, 0, 0)), (3, (0, 0, 1, 1, 1)), (2, (0, 0, (-2147483648), 2147483647, 60)), (0, (2, 50, 0, 0, 0)), (1, (2, 30, 0, 0, 0))] [] (xa_up (xa_up M 50 4 0) 50 5 0)
      refine hgo.2.1 34 _ [(3, (0, 0, 0, 1, 1)), (4, (0, 0, 0, 8, 0)), (2, (0, 0, 1, 60, 60)), (0, (2, 50, 0, 0, 0)), (1, (2, 30, 0, 0, 0))] _ _ (xa_subI rfl rfl (fun _ _ _ _ => by omega) (xa_subI rfl rfl (fun _ _ _ _ => by omega) (xa_subI rfl rfl (fun _ _ _ _ => by omega) (xa_subR rfl (xa_subR rfl (xa_sub0)))))) ?_
      exact loop 60 (by omega) (by split <;> omega) 9 0 1 _ (by omega) (by omega) (by omega) (fun q j h1 h2 => (xa_up_ne (by omega)).trans (xa_up_ne (by omega))) (fun _ => by omega) (fun _ => by show (0 : Int) ≤ 0 ∧ (0 : Int) ≤ 60; omega) (fun _ ans U W N _ hB => hB) (fun h => absurd h (by omega)) (by omega)
    · intro (i3 : (M 30 1) ≤ 60)
      show Q 34 [(4, (0, 0, 0, 0, 0)), (3, (0, 0, 1, 1, 1)), (2, (0, 0, (-2147483648), 2147483647, M 30 1)), (0, (2, 50, 0, 0, 0)), (1, (2, 30, 0, 0, 0))] [] (xa_up (xa_up M 50 4 0) 50 5 0)
      refine hgo.2.1 34 _ [(3, (0, 0, 0, 1, 1)), (4, (0, 0, 0, 8, 0)), (2, (0, 0, 1, 60, M 30 1)), (0, (2, 50, 0, 0, 0)), (1, (2, 30, 0, 0, 0))] _ _ (xa_subI rfl rfl (fun _ _ _ _ => by omega) (xa_subI rfl rfl (fun _ _ _ _ => by omega) (xa_subI rfl rfl (fun _ _ _ _ => by omega) (xa_subR rfl (xa_subR rfl (xa_sub0)))))) ?_
      exact loop (M 30 1) (by omega) (by split <;> omega) 9 0 1 _ (by omega) (by omega) (by omega) (fun q j h1 h2 => (xa_up_ne (by omega)).trans (xa_up_ne (by omega))) (fun _ => by omega) (fun _ => by show (0 : Int) ≤ 0 ∧ (0 : Int) ≤ (M 30 1); omega) (fun _ ans U W N _ hB => hB) (fun h => absurd h (by omega)) (by omega)
  · intro (c1 : (M 30 1) = 0)
    show xa_wk post (some (0, 0, 0, 0, 0)) (xa_up (xa_up M 50 4 0) 50 5 0)
    exact xa_wkI 0 rfl (fun _ _ => by omega) (k 0 _ (fun q j h1 h2 => (xa_up_ne (by omega)).trans (xa_up_ne (by omega))) (Or.inl ⟨by omega, rfl⟩) (fun _ => rfl))
theorem cx_115_55 {b : Bool} {A : Nat → Nat} {h0 : g_H} {d : Nat} {M : xa_M} {post : Option xa_V → xa_M → Prop} {T : Int → Int} (hT : (∀ i, 0 ≤ i → i < 80 → M 31 i = T i)) (hz : 0 ≤ M 30 1 ∧ M 30 1 ≤ 80) (k : ∀ (r : Int) (M1 : xa_M), (∀ q j, ¬ (q = 55 ∧ 4 ≤ j ∧ j ≤ 7) → ¬ (q = 56 ∨ q = 57 ∨ q = 58) → M1 q j = M q j) → bk_R T (M 30 1) r (M1 56) (M1 57) (M1 58) → (0 ≤ r → M1 55 4 = r) → post (some (0, 0, (-2147483648), 2147483647, r)) M1) : xa_C (xl_I b) A h0 (d + 6) 115 [(2, 55, 0, 0, 0), (2, 30, 0, 0, 0)] M post := by
  refine xa_C_wk ?_
  refine xa_meth (Q0 := (5, 1, false, 0, 0, 0)) (by decide +kernel) ⟨rfl, rfl⟩ (full := s_c_115) rfl rfl ?_
  intro hM hv Q hgo
  have loop : ∀ (e : Int), (1 ≤ e ∧ e ≤ 60 ∧ e ≤ M 30 1) → e = (if M 30 1 ≤ 60 then M 30 1 else 60) → ∀ (n : Nat) (x4 x3 : Int) (M1 : xa_M), 0 ≤ x4 → x4 ≤ 8 → 0 ≤ x3 ∧ x3 ≤ 1 → (∀ q j, ¬ (q = 55 ∧ 4 ≤ j ∧ j ≤ 7) → ¬ (q = 56 ∨ q = 57 ∨ q = 58) → M1 q j = M q j) → (x3 = 1 → x4 ≤ 7) → (x3 = 1 → 0 ≤ M1 55 5 ∧ M1 55 5 ≤ e) → (x3 = 1 → (∀ (ans : Int) (U W N : Int → Int), (∀ i, 0 ≤ i → i < x4 → U i = M1 56 i ∧ W i = M1 57 i ∧ N i = M1 58 i) → bk_B T e (M 30 1) ans U W N (8 - x4).toNat x4 (M1 55 5) → bk_B T e (M 30 1) ans U W N 8 0 0)) → (x3 = 0 → ∃ ans, bk_B T e (M 30 1) ans (M1 56) (M1 57) (M1 58) 8 0 0 ∧ ((0 ≤ M1 55 5 ∧ M1 55 5 ≤ 100) ∧ 0 ≤ M1 55 7 ∧ M1 55 7 ≤ 1) ∧ ((M1 55 7 = 1 ∧ M 30 1 ≤ 60 ∧ ans = M1 55 4 ∧ 0 ≤ ans) ∨ (¬ (M1 55 7 = 1 ∧ M 30 1 ≤ 60) ∧ ans = -1 - M1 55 5 ∧ ans < 0))) → 8 - x4 < (n : Int) → Q 34 [(3, (0, 0, 0, 1, x3)), (4, (0, 0, 0, 8, x4)), (2, (0, 0, 1, 60, e)), (0, (2, 55, 0, 0, 0)), (1, (2, 30, 0, 0, 0))] [] M1 := by
    intro e he3 he4 n
    induction n with
    | zero => intro x4 x3 M1 i0 i1 i2 hk hA0 hA1 hA hB hms; omega
    | succ n ih =>
      intro x4 x3 M1 i0 i1 i2 hk hA0 hA1 hA hB hms
      have e30 : M1 30 1 = M 30 1 := hk 30 1 (by omega) (by omega)
      have hT1 : (∀ i, 0 ≤ i → i < 80 → M1 31 i = T i) := fun i i0 i1 => (hk 31 i (by omega) (by omega)).trans (hT i i0 i1)
      refine hgo.1 57 [34] 34 _ _ _ ?_
      refine And.intro ?_ ?_
      · intro (c1 : 8 ≤ x4)
        refine And.intro ?_ ?_
        · intro (c2 : (M1 55 7) = 0)
          show xa_wk post (some (0, 0, (-2147483648), 2147483647, (-1) - (M1 55 5))) M1
          have z3 : x3 = 0 := by
            clear hA hB
            omega
          obtain ⟨ans, hB1, hB2, hB3⟩ := hB z3
          clear hA hB
          have w1 : xa_w32 ((-1) - (M1 55 5)) = (-1) - (M1 55 5) := xa_w32_id (by omega) (by omega)
          exact xa_wkI ans (by omega) (fun _ _ => by omega) (k ans _ hk (Or.inr ⟨by omega, by rw [← he4]; exact hB1⟩) (fun h => by omega))
        · intro (c2 : ¬ (M1 55 7) = 0)
          refine And.intro ?_ ?_
          · intro (c3 : 60 < (M1 30 1))
            show xa_wk post (some (0, 0, (-2147483648), 2147483647, (-1) - (M1 55 5))) M1
            have z3 : x3 = 0 := by
              clear hA hB
              omega
            obtain ⟨ans, hB1, hB2, hB3⟩ := hB z3
            clear hA hB
            have w1 : xa_w32 ((-1) - (M1 55 5)) = (-1) - (M1 55 5) := xa_w32_id (by omega) (by omega)
            exact xa_wkI ans (by omega) (fun _ _ => by omega) (k ans _ hk (Or.inr ⟨by omega, by rw [← he4]; exact hB1⟩) (fun h => by omega))
          · intro (c3 : (M1 30 1) ≤ 60)
            show xa_wk post (some (0, 0, (-2147483648), 2147483647, M1 55 4)) M1
            have z3 : x3 = 0 := by
              clear hA hB
              omega
            obtain ⟨ans, hB1, hB2, hB3⟩ := hB z3
            clear hA hB
            have w1 : xa_w32 ((-1) - (M1 55 5)) = (-1) - (M1 55 5) := xa_w32_id (by omega) (by omega)
            exact xa_wkI ans (by omega) (fun _ _ => by omega) (k ans _ hk (Or.inr ⟨by omega, by rw [← he4]; exact hB1⟩) (fun h => by omega))
      · intro (c1 : x4 < 8)
        refine And.intro ?_ ?_
        · intro (c4 : x3 = 0)
          refine And.intro ?_ ?_
          · intro (c5 : (M1 55 7) = 0)
            show xa_wk post (some (0, 0, (-2147483648), 2147483647, (-1) - (M1 55 5))) M1
            have z3 : x3 = 0 := by
              clear hA hB
              omega
            obtain ⟨ans, hB1, hB2, hB3⟩ := hB z3
            clear hA hB
            have w1 : xa_w32 ((-1) - (M1 55 5)) = (-1) - (M1 55 5) := xa_w32_id (by omega) (by omega)
            exact xa_wkI ans (by omega) (fun _ _ => by omega) (k ans _ hk (Or.inr ⟨by omega, by rw [← he4]; exact hB1⟩) (fun h => by omega))
          · intro (c5 : ¬ (M1 55 7) = 0)
            refine And.intro ?_ ?_
            · intro (c6 : 60 < (M1 30 1))
              show xa_wk post (some (0, 0, (-2147483648), 2147483647, (-1) - (M1 55 5))) M1
              have z3 : x3 = 0 := by
                clear hA hB
                omega
              obtain ⟨ans, hB1, hB2, hB3⟩ := hB z3
              clear hA hB
              have w1 : xa_w32 ((-1) - (M1 55 5)) = (-1) - (M1 55 5) := xa_w32_id (by omega) (by omega)
              exact xa_wkI ans (by omega) (fun _ _ => by omega) (k ans _ hk (Or.inr ⟨by omega, by rw [← he4]; exact hB1⟩) (fun h => by omega))
            · intro (c6 : (M1 30 1) ≤ 60)
              show xa_wk post (some (0, 0, (-2147483648), 2147483647, M1 55 4)) M1
              have z3 : x3 = 0 := by
                clear hA hB
                omega
              obtain ⟨ans, hB1, hB2, hB3⟩ := hB z3
              clear hA hB
              have w1 : xa_w32 ((-1) - (M1 55 5)) = (-1) - (M1 55 5) := xa_w32_id (by omega) (by omega)
              exact xa_wkI ans (by omega) (fun _ _ => by omega) (k ans _ hk (Or.inr ⟨by omega, by rw [← he4]; exact hB1⟩) (fun h => by omega))
        · intro (c4 : ¬ x3 = 0)
          have z3 : x3 = 1 := by
            clear hA hB
            omega
          have hA2 := hA z3
          have hA3 := hA1 z3
          clear hA hB
          show xa_C (xl_I b) A h0 _ 116 [(2, 55, 0, 0, 0), (2, 30, 0, 0, 0), (0, 0, 1, 60, e), (0, 0, 0, 8, x4)] M1 _
          refine cx_116_55 hT1 (show 0 ≤ e ∧ e ≤ 60 ∧ e ≤ (M1 30 1) ∧ (M1 30 1) ≤ 80 by omega) (show 0 ≤ (M1 55 5) ∧ (M1 55 5) ≤ e by omega) (show 0 ≤ x4 ∧ x4 < 8 by omega) ?_
          intro M106 (i7 : ∀ q j, ¬ (q = 55 ∧ 4 ≤ j ∧ j ≤ 7) → ¬ ((q = 56 ∨ q = 57 ∨ q = 58) ∧ j = x4) → M106 q j = M1 q j) (i8 : bk_L T e (M1 55 5) (M106 55 7) (M106 56 x4) (M106 57 x4) (M106 58 x4) (M106 55 5)) (i9 : M106 55 4 = x4 + 1)
          have hTX : ∀ i, 0 ≤ i → i < 80 → M106 31 i = T i := fun i i0 i1 => (i7 31 i (by omega) (by omega)).trans (hT1 i i0 i1)
          have eX : M106 30 1 = M 30 1 := (i7 30 1 (by omega) (by omega)).trans e30
          have fX : ∀ q j, ¬ (q = 55 ∧ 4 ≤ j ∧ j ≤ 7) → ¬ (q = 56 ∨ q = 57 ∨ q = 58) → M106 q j = M q j := fun q j h1 h2 => (i7 q j h1 (by omega)).trans (hk q j h1 h2)
          have gX : ∀ i, 0 ≤ i → i < x4 → M106 56 i = M1 56 i ∧ M106 57 i = M1 57 i ∧ M106 58 i = M1 58 i := fun i i0 i1 => ⟨i7 56 i (by omega) (by omega), i7 57 i (by omega) (by omega), i7 58 i (by omega) (by omega)⟩
          have lX := bk_L_b i8 (by omega)
          have tX := hTX (M106 55 5)
          have wX : xa_w32 ((M106 55 5) + 1) = (M106 55 5) + 1 := xa_w32_id (by omega) (by omega)
          refine And.intro ?_ ?_
          · intro (c10 : (M106 55 7) = 0)
            show Q 34 [(4, (0, 0, 1, 9, x4 + 1)), (3, (0, 0, 0, 0, 0)), (2, (0, 0, 1, 60, e)), (0, (2, 55, 0, 0, 0)), (1, (2, 30, 0, 0, 0))] [] M106
            have hBB : ∃ ans, bk_B T e (M 30 1) ans (M106 56) (M106 57) (M106 58) 8 0 0 ∧ ((M106 55 7 = 1 ∧ ¬ M106 55 5 < e ∧ M 30 1 ≤ 60 ∧ ans = x4 + 1) ∨ (¬ (M106 55 7 = 1 ∧ ¬ M106 55 5 < e ∧ M 30 1 ≤ 60) ∧ ans = -1 - M106 55 5)) := by
              by_cases z9 : M106 55 7 = 1 ∧ ¬ M106 55 5 < e ∧ M 30 1 ≤ 60
              · exact ⟨x4 + 1, bk_B_end (by omega) (by omega) hA2 gX i8 (Or.inr ⟨z9.1, Or.inr (Or.inl ⟨z9.2.1, z9.2.2, rfl⟩)⟩), Or.inl ⟨z9.1, z9.2.1, z9.2.2, rfl⟩⟩
              · exact ⟨-1 - M106 55 5, bk_B_end (by omega) (by omega) hA2 gX i8 (by omega), Or.inr ⟨z9, rfl⟩⟩
            obtain ⟨ans, hB1, hB2⟩ := hBB
            refine hgo.2.1 34 _ [(3, (0, 0, 0, 1, 0)), (4, (0, 0, 0, 8, x4 + 1)), (2, (0, 0, 1, 60, e)), (0, (2, 55, 0, 0, 0)), (1, (2, 30, 0, 0, 0))] _ _ (xa_subI rfl rfl (fun _ _ _ _ => by omega) (xa_subI rfl rfl (fun _ _ _ _ => by omega) (xa_subI rfl rfl (fun _ _ _ _ => by omega) (xa_subR rfl (xa_subR rfl (xa_sub0)))))) ?_
            refine ih (x4 + 1) 0 _ (by omega) (by omega) (by omega) (fun q j h1 h2 => fX q j h1 h2) (fun h => by omega) (fun h => by omega) (fun h => absurd h (by omega)) (fun _ => ⟨ans, hB1, ?_⟩) (by omega)
            show ((0 ≤ (M106 55 5) ∧ (M106 55 5) ≤ 100) ∧ 0 ≤ (M106 55 7) ∧ (M106 55 7) ≤ 1) ∧ (((M106 55 7) = 1 ∧ M 30 1 ≤ 60 ∧ ans = (M106 55 4) ∧ 0 ≤ ans) ∨ (¬ ((M106 55 7) = 1 ∧ M 30 1 ≤ 60) ∧ ans = -1 - (M106 55 5) ∧ ans < 0))
            omega
          · intro (c10 : ¬ (M106 55 7) = 0)
            refine And.intro ?_ ?_
            · intro (c11 : e ≤ (M106 55 5))
              show Q 34 [(4, (0, 0, 1, 9, x4 + 1)), (3, (0, 0, 0, 0, 0)), (2, (0, 0, 1, 60, e)), (0, (2, 55, 0, 0, 0)), (1, (2, 30, 0, 0, 0))] [] M106
              have hBB : ∃ ans, bk_B T e (M 30 1) ans (M106 56) (M106 57) (M106 58) 8 0 0 ∧ ((M106 55 7 = 1 ∧ ¬ M106 55 5 < e ∧ M 30 1 ≤ 60 ∧ ans = x4 + 1) ∨ (¬ (M106 55 7 = 1 ∧ ¬ M106 55 5 < e ∧ M 30 1 ≤ 60) ∧ ans = -1 - M106 55 5)) := by
                by_cases z9 : M106 55 7 = 1 ∧ ¬ M106 55 5 < e ∧ M 30 1 ≤ 60
                · exact ⟨x4 + 1, bk_B_end (by omega) (by omega) hA2 gX i8 (Or.inr ⟨z9.1, Or.inr (Or.inl ⟨z9.2.1, z9.2.2, rfl⟩)⟩), Or.inl ⟨z9.1, z9.2.1, z9.2.2, rfl⟩⟩
                · exact ⟨-1 - M106 55 5, bk_B_end (by omega) (by omega) hA2 gX i8 (by omega), Or.inr ⟨z9, rfl⟩⟩
              obtain ⟨ans, hB1, hB2⟩ := hBB
              refine hgo.2.1 34 _ [(3, (0, 0, 0, 1, 0)), (4, (0, 0, 0, 8, x4 + 1)), (2, (0, 0, 1, 60, e)), (0, (2, 55, 0, 0, 0)), (1, (2, 30, 0, 0, 0))] _ _ (xa_subI rfl rfl (fun _ _ _ _ => by omega) (xa_subI rfl rfl (fun _ _ _ _ => by omega) (xa_subI rfl rfl (fun _ _ _ _ => by omega) (xa_subR rfl (xa_subR rfl (xa_sub0)))))) ?_
              refine ih (x4 + 1) 0 _ (by omega) (by omega) (by omega) (fun q j h1 h2 => fX q j h1 h2) (fun h => by omega) (fun h => by omega) (fun h => absurd h (by omega)) (fun _ => ⟨ans, hB1, ?_⟩) (by omega)
              show ((0 ≤ (M106 55 5) ∧ (M106 55 5) ≤ 100) ∧ 0 ≤ (M106 55 7) ∧ (M106 55 7) ≤ 1) ∧ (((M106 55 7) = 1 ∧ M 30 1 ≤ 60 ∧ ans = (M106 55 4) ∧ 0 ≤ ans) ∨ (¬ ((M106 55 7) = 1 ∧ M 30 1 ≤ 60) ∧ ans = -1 - (M106 55 5) ∧ ans < 0))
              omega
            · intro (c11 : (M106 55 5) < e)
              show xa_C (xl_I b) A h0 _ 119 [(2, 30, 0, 0, 0), (0, 0, (-2147483648), 2147483647, M106 55 5)] M106 _
              refine cg_119 (show 0 ≤ (M106 30 1) ∧ (M106 30 1) ≤ 80 by omega) ?_ ?_
              · intro (i12 : 0 ≤ (M106 55 5) ∧ (M106 55 5) < (M106 30 1))
                refine And.intro ?_ ?_
                · intro (c13 : ¬ (M106 31 (M106 55 5)) = 59)
                  refine And.intro ?_ ?_
                  · intro (c14 : 0 = 0)
                    show Q 34 [(4, (0, 0, 1, 9, x4 + 1)), (3, (0, 0, 0, 1, 0)), (2, (0, 0, 1, 60, e)), (0, (2, 55, 0, 0, 0)), (1, (2, 30, 0, 0, 0))] [] (xa_up (xa_up M106 55 7 0) 55 5 ((M106 55 5) + 0))
                    have hBB : ∃ ans, bk_B T e (M 30 1) ans (M106 56) (M106 57) (M106 58) 8 0 0 ∧ ((M106 55 7 = 1 ∧ ¬ M106 55 5 < e ∧ M 30 1 ≤ 60 ∧ ans = x4 + 1) ∨ (¬ (M106 55 7 = 1 ∧ ¬ M106 55 5 < e ∧ M 30 1 ≤ 60) ∧ ans = -1 - M106 55 5)) := by
                      by_cases z9 : M106 55 7 = 1 ∧ ¬ M106 55 5 < e ∧ M 30 1 ≤ 60
                      · exact ⟨x4 + 1, bk_B_end (by omega) (by omega) hA2 gX i8 (Or.inr ⟨z9.1, Or.inr (Or.inl ⟨z9.2.1, z9.2.2, rfl⟩)⟩), Or.inl ⟨z9.1, z9.2.1, z9.2.2, rfl⟩⟩
                      · exact ⟨-1 - M106 55 5, bk_B_end (by omega) (by omega) hA2 gX i8 (by omega), Or.inr ⟨z9, rfl⟩⟩
                    obtain ⟨ans, hB1, hB2⟩ := hBB
                    have a1 : (xa_up (xa_up M106 55 7 0) 55 5 ((M106 55 5) + 0)) 56 = M106 56 := funext (fun j => (xa_up_ne (by omega)).trans (xa_up_ne (by omega)))
                    have a2 : (xa_up (xa_up M106 55 7 0) 55 5 ((M106 55 5) + 0)) 57 = M106 57 := funext (fun j => (xa_up_ne (by omega)).trans (xa_up_ne (by omega)))
                    have a3 : (xa_up (xa_up M106 55 7 0) 55 5 ((M106 55 5) + 0)) 58 = M106 58 := funext (fun j => (xa_up_ne (by omega)).trans (xa_up_ne (by omega)))
                    refine hgo.2.1 34 _ [(3, (0, 0, 0, 1, 0)), (4, (0, 0, 0, 8, x4 + 1)), (2, (0, 0, 1, 60, e)), (0, (2, 55, 0, 0, 0)), (1, (2, 30, 0, 0, 0))] _ _ (xa_subI rfl rfl (fun _ _ _ _ => by omega) (xa_subI rfl rfl (fun _ _ _ _ => by omega) (xa_subI rfl rfl (fun _ _ _ _ => by omega) (xa_subR rfl (xa_subR rfl (xa_sub0)))))) ?_
                    refine ih (x4 + 1) 0 _ (by omega) (by omega) (by omega) (fun q j h1 h2 => (xa_up_ne (by omega)).trans ((xa_up_ne (by omega)).trans (fX q j h1 h2))) (fun h => by omega) (fun h => by omega) (fun h => absurd h (by omega)) (fun _ => ⟨ans, by rw [a1, a2, a3]; exact hB1, ?_⟩) (by omega)
                    show ((0 ≤ ((M106 55 5) + 0) ∧ ((M106 55 5) + 0) ≤ 100) ∧ 0 ≤ 0 ∧ 0 ≤ 1) ∧ ((0 = 1 ∧ M 30 1 ≤ 60 ∧ ans = (M106 55 4) ∧ 0 ≤ ans) ∨ (¬ (0 = 1 ∧ M 30 1 ≤ 60) ∧ ans = -1 - ((M106 55 5) + 0) ∧ ans < 0))
                    omega
                  · intro (c14 : ¬ 0 = 0)
                    exfalso
                    omega
                · intro (c13 : (M106 31 (M106 55 5)) = 59)
                  refine And.intro ?_ ?_
                  · intro (c15 : 8 ≤ (x4 + 1))
                    refine And.intro ?_ ?_
                    · intro (c16 : 0 = 0)
                      show Q 34 [(4, (0, 0, 1, 9, x4 + 1)), (3, (0, 0, 0, 1, 0)), (2, (0, 0, 1, 60, e)), (0, (2, 55, 0, 0, 0)), (1, (2, 30, 0, 0, 0))] [] (xa_up (xa_up M106 55 7 0) 55 5 ((M106 55 5) + 0))
                      have hBB : ∃ ans, bk_B T e (M 30 1) ans (M106 56) (M106 57) (M106 58) 8 0 0 ∧ ((M106 55 7 = 1 ∧ ¬ M106 55 5 < e ∧ M 30 1 ≤ 60 ∧ ans = x4 + 1) ∨ (¬ (M106 55 7 = 1 ∧ ¬ M106 55 5 < e ∧ M 30 1 ≤ 60) ∧ ans = -1 - M106 55 5)) := by
                        by_cases z9 : M106 55 7 = 1 ∧ ¬ M106 55 5 < e ∧ M 30 1 ≤ 60
                        · exact ⟨x4 + 1, bk_B_end (by omega) (by omega) hA2 gX i8 (Or.inr ⟨z9.1, Or.inr (Or.inl ⟨z9.2.1, z9.2.2, rfl⟩)⟩), Or.inl ⟨z9.1, z9.2.1, z9.2.2, rfl⟩⟩
                        · exact ⟨-1 - M106 55 5, bk_B_end (by omega) (by omega) hA2 gX i8 (by omega), Or.inr ⟨z9, rfl⟩⟩
                      obtain ⟨ans, hB1, hB2⟩ := hBB
                      have a1 : (xa_up (xa_up M106 55 7 0) 55 5 ((M106 55 5) + 0)) 56 = M106 56 := funext (fun j => (xa_up_ne (by omega)).trans (xa_up_ne (by omega)))
                      have a2 : (xa_up (xa_up M106 55 7 0) 55 5 ((M106 55 5) + 0)) 57 = M106 57 := funext (fun j => (xa_up_ne (by omega)).trans (xa_up_ne (by omega)))
                      have a3 : (xa_up (xa_up M106 55 7 0) 55 5 ((M106 55 5) + 0)) 58 = M106 58 := funext (fun j => (xa_up_ne (by omega)).trans (xa_up_ne (by omega)))
                      refine hgo.2.1 34 _ [(3, (0, 0, 0, 1, 0)), (4, (0, 0, 0, 8, x4 + 1)), (2, (0, 0, 1, 60, e)), (0, (2, 55, 0, 0, 0)), (1, (2, 30, 0, 0, 0))] _ _ (xa_subI rfl rfl (fun _ _ _ _ => by omega) (xa_subI rfl rfl (fun _ _ _ _ => by omega) (xa_subI rfl rfl (fun _ _ _ _ => by omega) (xa_subR rfl (xa_subR rfl (xa_sub0)))))) ?_
                      refine ih (x4 + 1) 0 _ (by omega) (by omega) (by omega) (fun q j h1 h2 => (xa_up_ne (by omega)).trans ((xa_up_ne (by omega)).trans (fX q j h1 h2))) (fun h => by omega) (fun h => by omega) (fun h => absurd h (by omega)) (fun _ => ⟨ans, by rw [a1, a2, a3]; exact hB1, ?_⟩) (by omega)
                      show ((0 ≤ ((M106 55 5) + 0) ∧ ((M106 55 5) + 0) ≤ 100) ∧ 0 ≤ 0 ∧ 0 ≤ 1) ∧ ((0 = 1 ∧ M 30 1 ≤ 60 ∧ ans = (M106 55 4) ∧ 0 ≤ ans) ∨ (¬ (0 = 1 ∧ M 30 1 ≤ 60) ∧ ans = -1 - ((M106 55 5) + 0) ∧ ans < 0))
                      omega
                    · intro (c16 : ¬ 0 = 0)
                      exfalso
                      omega
                  · intro (c15 : (x4 + 1) < 8)
                    refine And.intro ?_ ?_
                    · intro (c17 : 1 = 0)
                      exfalso
                      omega
                    · intro (c17 : ¬ 1 = 0)
                      show Q 34 [(4, (0, 0, 1, 9, x4 + 1)), (3, (0, 0, 0, 1, 1)), (2, (0, 0, 1, 60, e)), (0, (2, 55, 0, 0, 0)), (1, (2, 30, 0, 0, 0))] [] (xa_up (xa_up M106 55 7 1) 55 5 (xa_w32 ((M106 55 5) + 1)))
                      have ok1 : M106 55 7 = 1 := by omega
                      rw [ok1] at i8
                      have nx := bk_B_next (by omega) (by omega) hA2 gX i8 (by omega) (by omega)
                      have a1 : (xa_up (xa_up M106 55 7 1) 55 5 (xa_w32 ((M106 55 5) + 1))) 56 = M106 56 := funext (fun j => (xa_up_ne (by omega)).trans (xa_up_ne (by omega)))
                      have a2 : (xa_up (xa_up M106 55 7 1) 55 5 (xa_w32 ((M106 55 5) + 1))) 57 = M106 57 := funext (fun j => (xa_up_ne (by omega)).trans (xa_up_ne (by omega)))
                      have a3 : (xa_up (xa_up M106 55 7 1) 55 5 (xa_w32 ((M106 55 5) + 1))) 58 = M106 58 := funext (fun j => (xa_up_ne (by omega)).trans (xa_up_ne (by omega)))
                      have a5 : (xa_up (xa_up M106 55 7 1) 55 5 (xa_w32 ((M106 55 5) + 1))) 55 5 = M106 55 5 + 1 := wX
                      refine hgo.2.1 34 _ [(3, (0, 0, 0, 1, 1)), (4, (0, 0, 0, 8, x4 + 1)), (2, (0, 0, 1, 60, e)), (0, (2, 55, 0, 0, 0)), (1, (2, 30, 0, 0, 0))] _ _ (xa_subI rfl rfl (fun _ _ _ _ => by omega) (xa_subI rfl rfl (fun _ _ _ _ => by omega) (xa_subI rfl rfl (fun _ _ _ _ => by omega) (xa_subR rfl (xa_subR rfl (xa_sub0)))))) ?_
                      exact ih (x4 + 1) 1 _ (by omega) (by omega) (by omega) (fun q j h1 h2 => (xa_up_ne (by omega)).trans ((xa_up_ne (by omega)).trans (fX q j h1 h2))) (fun h => by omega) (fun _ => by rw [a5]; omega) (fun _ => by rw [a1, a2, a3, a5]; exact nx) (fun h => absurd h (by omega)) (by omega)
              · intro (i18 : ¬ (0 ≤ (M106 55 5) ∧ (M106 55 5) < (M106 30 1)))
                refine And.intro ?_ ?_
                · intro (c19 : 0 = 0)
                  show Q 34 [(4, (0, 0, 1, 9, x4 + 1)), (3, (0, 0, 0, 1, 0)), (2, (0, 0, 1, 60, e)), (0, (2, 55, 0, 0, 0)), (1, (2, 30, 0, 0, 0))] [] (xa_up (xa_up M106 55 7 0) 55 5 ((M106 55 5) + 0))
                  have hBB : ∃ ans, bk_B T e (M 30 1) ans (M106 56) (M106 57) (M106 58) 8 0 0 ∧ ((M106 55 7 = 1 ∧ ¬ M106 55 5 < e ∧ M 30 1 ≤ 60 ∧ ans = x4 + 1) ∨ (¬ (M106 55 7 = 1 ∧ ¬ M106 55 5 < e ∧ M 30 1 ≤ 60) ∧ ans = -1 - M106 55 5)) := by
                    by_cases z9 : M106 55 7 = 1 ∧ ¬ M106 55 5 < e ∧ M 30 1 ≤ 60
                    · exact ⟨x4 + 1, bk_B_end (by omega) (by omega) hA2 gX i8 (Or.inr ⟨z9.1, Or.inr (Or.inl ⟨z9.2.1, z9.2.2, rfl⟩)⟩), Or.inl ⟨z9.1, z9.2.1, z9.2.2, rfl⟩⟩
                    · exact ⟨-1 - M106 55 5, bk_B_end (by omega) (by omega) hA2 gX i8 (by omega), Or.inr ⟨z9, rfl⟩⟩
                  obtain ⟨ans, hB1, hB2⟩ := hBB
                  have a1 : (xa_up (xa_up M106 55 7 0) 55 5 ((M106 55 5) + 0)) 56 = M106 56 := funext (fun j => (xa_up_ne (by omega)).trans (xa_up_ne (by omega)))
                  have a2 : (xa_up (xa_up M106 55 7 0) 55 5 ((M106 55 5) + 0)) 57 = M106 57 := funext (fun j => (xa_up_ne (by omega)).trans (xa_up_ne (by omega)))
                  have a3 : (xa_up (xa_up M106 55 7 0) 55 5 ((M106 55 5) + 0)) 58 = M106 58 := funext (fun j => (xa_up_ne (by omega)).trans (xa_up_ne (by omega)))
                  refine hgo.2.1 34 _ [(3, (0, 0, 0, 1, 0)), (4, (0, 0, 0, 8, x4 + 1)), (2, (0, 0, 1, 60, e)), (0, (2, 55, 0, 0, 0)), (1, (2, 30, 0, 0, 0))] _ _ (xa_subI rfl rfl (fun _ _ _ _ => by omega) (xa_subI rfl rfl (fun _ _ _ _ => by omega) (xa_subI rfl rfl (fun _ _ _ _ => by omega) (xa_subR rfl (xa_subR rfl (xa_sub0)))))) ?_
                  refine ih (x4 + 1) 0 _ (by omega) (by omega) (by omega) (fun q j h1 h2 => (xa_up_ne (by omega)).trans ((xa_up_ne (by omega)).trans (fX q j h1 h2))) (fun h => by omega) (fun h => by omega) (fun h => absurd h (by omega)) (fun _ => ⟨ans, by rw [a1, a2, a3]; exact hB1, ?_⟩) (by omega)
                  show ((0 ≤ ((M106 55 5) + 0) ∧ ((M106 55 5) + 0) ≤ 100) ∧ 0 ≤ 0 ∧ 0 ≤ 1) ∧ ((0 = 1 ∧ M 30 1 ≤ 60 ∧ ans = (M106 55 4) ∧ 0 ≤ ans) ∨ (¬ (0 = 1 ∧ M 30 1 ≤ 60) ∧ ans = -1 - ((M106 55 5) + 0) ∧ ans < 0))
                  omega
                · intro (c19 : ¬ 0 = 0)
                  exfalso
                  omega

  refine hgo.1 23 [34] 0 _ _ _ ?_
  refine And.intro ?_ ?_
  · intro (c1 : ¬ (M 30 1) = 0)
    show xa_C (xl_I b) A h0 _ 32 [(0, 0, (-2147483648), 2147483647, M 30 1), (0, 0, 60, 60, 60)] (xa_up (xa_up M 55 4 0) 55 5 0) _
    refine cx_32 ?_ ?_
    · intro (i2 : 60 < (M 30 1))
      show Q 34 [(4, (0, 0, 0, 0, 0)), (3, (0, 0, 1, 1, 1)), (2, (0, 0, (-2147483648), 2147483647, 60)), (0, (2, 55, 0, 0, 0)), (1, (2, 30, 0, 0, 0))] [] (xa_up (xa_up M 55 4 0) 55 5 0)
      refine hgo.2.1 34 _ [(3, (0, 0, 0, 1, 1)), (4, (0, 0, 0, 8, 0)), (2, (0, 0, 1, 60, 60)), (0, (2, 55, 0, 0, 0)), (1, (2, 30, 0, 0, 0))] _ _ (xa_subI rfl rfl (fun _ _ _ _ => by omega) (xa_subI rfl rfl (fun _ _ _ _ => by omega) (xa_subI rfl rfl (fun _ _ _ _ => by omega) (xa_subR rfl (xa_subR rfl (xa_sub0)))))) ?_
      exact loop 60 (by omega) (by split <;> omega) 9 0 1 _ (by omega) (by omega) (by omega) (fun q j h1 h2 => (xa_up_ne (by omega)).trans (xa_up_ne (by omega))) (fun _ => by omega) (fun _ => by show (0 : Int) ≤ 0 ∧ (0 : Int) ≤ 60; omega) (fun _ ans U W N _ hB => hB) (fun h => absurd h (by omega)) (by omega)
    · intro (i3 : (M 30 1) ≤ 60)
      show Q 34 [(4, (0, 0, 0, 0, 0)), (3, (0, 0, 1, 1, 1)), (2, (0, 0, (-2147483648), 2147483647, M 30 1)), (0, (2, 55, 0, 0, 0)), (1, (2, 30, 0, 0, 0))] [] (xa_up (xa_up M 55 4 0) 55 5 0)
      refine hgo.2.1 34 _ [(3, (0, 0, 0, 1, 1)), (4, (0, 0, 0, 8, 0)), (2, (0, 0, 1, 60, M 30 1)), (0, (2, 55, 0, 0, 0)), (1, (2, 30, 0, 0, 0))] _ _ (xa_subI rfl rfl (fun _ _ _ _ => by omega) (xa_subI rfl rfl (fun _ _ _ _ => by omega) (xa_subI rfl rfl (fun _ _ _ _ => by omega) (xa_subR rfl (xa_subR rfl (xa_sub0)))))) ?_
      exact loop (M 30 1) (by omega) (by split <;> omega) 9 0 1 _ (by omega) (by omega) (by omega) (fun q j h1 h2 => (xa_up_ne (by omega)).trans (xa_up_ne (by omega))) (fun _ => by omega) (fun _ => by show (0 : Int) ≤ 0 ∧ (0 : Int) ≤ (M 30 1); omega) (fun _ ans U W N _ hB => hB) (fun h => absurd h (by omega)) (by omega)
  · intro (c1 : (M 30 1) = 0)
    show xa_wk post (some (0, 0, 0, 0, 0)) (xa_up (xa_up M 55 4 0) 55 5 0)
    exact xa_wkI 0 rfl (fun _ _ => by omega) (k 0 _ (fun q j h1 h2 => (xa_up_ne (by omega)).trans (xa_up_ne (by omega))) (Or.inl ⟨by omega, rfl⟩) (fun _ => rfl))
