-- trains: the pair of calls
set_option maxRecDepth 20000
theorem tr_Pe {L H n u v u' v' x y r : Int} (h : tr_P L H n u v x y r) (hu : 0 ≤ x → x < n → u = u' ∧ v = v') : tr_P L H n u' v' x y r := by
  by_cases c : 0 ≤ x ∧ x < n
  · obtain ⟨e1, e2⟩ := hu c.1 c.2
    rw [← e1, ← e2]
    exact h
  · refine Or.inl ⟨fun g => c ⟨g.1, g.2.1⟩, ?_⟩
    unfold tr_P at h
    omega
theorem iv_p122 (A : Nat → Nat) (cmp : Bool) : iv_pair (iv_J A) A 122 257 [0, 0] cmp false := iv_armV (fun W b h as M hJ hM hInv hs hR => by
  obtain ⟨m1, ys, rfl, -, hs⟩ := iv_spc hs
  obtain ⟨m2, ys, rfl, -, hs⟩ := iv_spc hs
  obtain rfl := iv_sp0 hs
  obtain ⟨s1, s2, s3, s4⟩ := lm_Sx.mp hR.2.1
  obtain ⟨y1, y2⟩ := hR.2.2
  have y1 : iv_num h 32 0 = M 60 15 := y1
  have y2 : iv_num h 32 1 = M 60 16 := y2
  have hMk := xa_H_Mok hM
  have b11 := xm_f11 hMk
  have b15 := xm_f15 hMk
  have b16 := xm_f16 hMk
  have hlh := hInv.2.2.2.1
  have hU : ∀ i, 0 ≤ i → i < iv_num h (bk_p b) 4 → (1 ≤ iv_num h (bk_p b + 1) i ∧ iv_num h (bk_p b + 1) i ≤ 2000) ∧ (1 ≤ iv_num h (bk_p b + 2) i ∧ iv_num h (bk_p b + 2) i ≤ 2000) := fun i i0 i1 => by
    rw [s3] at i1
    obtain ⟨g1, g2, -⟩ := s4 i i0 (by omega) i1
    have t1 := xm_t70 hMk i i0 (by omega)
    have t2 := xm_t71 hMk i i0 (by omega)
    have t3 := hInv.2.2.1 i i0 i1
    rw [g1, g2]
    omega
  have hc := cw_122 (b := b) (A := A) (h0 := h) (d := 56) (M := iv_num h) (l1 := -2147483648) (u1 := 2147483647) (l2 := -2147483648) (u2 := 2147483647) (x1 := m1.toInt) (x2 := m2.toInt) (post := fun o M1 => ∃ lo hi n, o = some (0, 0, lo, hi, n) ∧ tr_P (M 60 15) (M 60 16) (M 60 11) (M 70 m1.toInt) (M 71 m1.toInt) m1.toInt m2.toInt n ∧ ∀ (q : Nat) (j : Int), ¬ (q = 48 ∨ q = 49) → M1 q j = iv_num h q j) (by omega) (by omega) hU (fun n M1 x1 x2 => ⟨_, _, n, rfl, by
    rw [y1, y2, s3] at x1
    exact tr_Pe x1 (fun i0 i1 => by
      obtain ⟨g1, g2, -⟩ := s4 _ i0 (by omega) i1
      exact ⟨g1, g2⟩), x2⟩)
  have hm := fun (h1 : g_H) => ms_trainsF (A := A) (h0 := h1) (d := 57) (M := M) (l1 := -2147483648) (u1 := 2147483647) (l2 := -2147483648) (u2 := 2147483647) (a := m1.toInt) (b := m2.toInt) (post := fun o M2 => (∃ lo hi n, o = some (0, 0, lo, hi, n) ∧ tr_P (M 60 15) (M 60 16) (M 60 11) (M 70 m1.toInt) (M 71 m1.toInt) m1.toInt m2.toInt n ∧ xm_cor M M2) ∧ xm_Inv M2) hInv (fun lo hi r M2 x1 x2 => ⟨⟨lo, hi, r, rfl, x1, x2⟩, xm_Inv_cor x2 hInv⟩)
  refine ⟨[(2, 0, 0, 0, 0), (0, 0, -2147483648, 2147483647, m1.toInt), (0, 0, -2147483648, 2147483647, m2.toInt)], [(2, 60, 0, 0, 0), (0, 0, -2147483648, 2147483647, m1.toInt), (0, 0, -2147483648, 2147483647, m2.toInt)], _, _, ⟨rfl, iv_i m1, iv_i m2, trivial⟩, ⟨rfl, iv_i m1, iv_i m2, trivial⟩, fun n n' M1 M2 h1 h2 => ⟨fun _ => tr_one h1.1 h2.1, fun x => h2.2 104 x (by unfold xm_scr; omega), fun x => h2.2 105 x (by unfold xm_scr; omega), lm_R_k (fun q j hC => ?_) hR⟩, hc, hm⟩
  unfold xj
  by_cases hq : q < 60
  · rw [if_pos hq, if_pos hq]
    exact h1.2 q j (by unfold lm_C at hC; omega)
  · rw [if_neg hq, if_neg hq]
    exact h2.2 q j (by unfold lm_C at hC; unfold xm_scr; omega))
