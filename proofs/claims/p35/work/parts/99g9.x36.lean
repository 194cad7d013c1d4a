-- pairs of calls: gives, near, off
set_option maxRecDepth 20000
theorem cx_166v {b : Bool} {A : Nat → Nat} {h0 : g_H} {d : Nat} {M : xa_M} {post : Option xa_V → xa_M → Prop} {l1 u1 l2 u2 l3 u3 x1 x2 x3 : Int} {N0 : xa_M} (hM0 : tu_M N0) (hC0 : tu_C M N0) (hB : tk_B (bk_p b) M N0) (k : ∀ (lo hi v : Int) (M1 : xa_M), tw_P ((0 ≤ x2 ∧ x2 < N0 60 11) ∧ (0 ≤ x3 ∧ x3 ≤ 360)) N0 x1 v (tw_oT tw_oC N0 x1 x2 x3) → (∀ (q : Nat) (j : Int), ¬ (12 ≤ q ∧ q ≤ 14) → ¬ (q = 48 ∨ q = 49) → M1 q j = M q j) → post (some (0, 0, lo, hi, v)) M1) : xa_C (xl_I b) A h0 (d + 9) 166 [(2, 0, 0, 0, 0), (0, 0, l1, u1, x1), (0, 0, l2, u2, x2), (0, 0, l3, u3, x3)] M post := by
  cases b
  · exact cx_166v_50 hM0 hC0 hB k
  · exact cx_166v_55 hM0 hC0 hB k
theorem tw_o2 {N0 : xa_M} {a p c v v' : Int} (hr : xm_rng N0) (hb : ∀ p, 0 ≤ p → p < N0 60 11 → 0 ≤ N0 70 p ∧ 1 ≤ N0 71 p) (h : tw_P ((0 ≤ p ∧ p < N0 60 11) ∧ (0 ≤ c ∧ c ≤ 360)) N0 a v (tw_oT tw_oC N0 a p c)) (h' : tw_P ((0 ≤ p ∧ p < N0 60 11) ∧ (0 ≤ c ∧ c ≤ 360)) N0 a v' (tw_oT tw_oR N0 a p c)) : v = v' := by
  rcases h with ⟨h1, h2⟩ | ⟨h1, h2⟩
  · rcases h' with ⟨-, h3⟩ | ⟨h3, -⟩
    · omega
    · exact absurd h3 h1
  · rcases h' with ⟨h3, -⟩ | ⟨-, h3⟩
    · exact absurd h1 h3
    · exact tw_A_one hr h2 h3 (fun _ _ _ _ _ e1 e2 t t' => tw_oT_one h1.2.1 (by have := hb p h1.1.1 h1.1.2; omega) e1 e2 t t')
theorem iv_p166 (A : Nat → Nat) (cmp : Bool) : iv_pair (iv_J A) A 166 277 [0, 0, 0] cmp false := iv_armV (fun W b h as M hJ hM hInv hs hR => by
  obtain ⟨m1, ys, rfl, -, hs⟩ := iv_spc hs
  obtain ⟨m2, ys, rfl, -, hs⟩ := iv_spc hs
  obtain ⟨m3, ys, rfl, -, hs⟩ := iv_spc hs
  obtain rfl := iv_sp0 hs
  have b0 := xm_f0 (xa_H_Mok hM)
  have b6 := xm_f6 (xa_H_Mok hM)
  have r1 : iv_num h 1 9 = M 60 0 := hR.1.1
  have r2 : iv_num h 1 10 = M 60 6 := hR.1.2.1
  have r3 : ∀ i, 0 ≤ i → i < 14 → iv_num h 2 i = M 61 i ∧ iv_num h 3 i = M 62 i ∧ iv_num h 5 i = M 64 i ∧ iv_num h 6 i = M 65 i ∧ iv_num h 4 i = M 63 i := hR.1.2.2.1
  have r4 : ∀ i, 0 ≤ i → i < 16 → iv_num h 7 i = M 66 i ∧ iv_num h 8 i = M 67 i := hR.1.2.2.2
  have hS := hR.2
  have hMk := xa_H_Mok hM
  have hT := tu_M_of hMk hInv
  have hr := xm_rng_I hMk hInv
  have hC0 : tu_C (iv_num h) M := ⟨r2, r4, fun w w0 w1 => ⟨(r3 w w0 w1).2.2.1, (r3 w w0 w1).2.2.2.2⟩⟩
  obtain ⟨s1, s2, s3, s4⟩ := lm_Sx.mp hR.2
  have b11 := xm_f11 hMk
  have hB : tk_B (bk_p b) (iv_num h) M := ⟨s3, b11, fun p p0 p1 => by
    obtain ⟨g1, g2, -⟩ := s4 p p0 (by omega) p1
    have t1 := xm_t70 hMk p p0 (by omega)
    have t2 := xm_t71 hMk p p0 (by omega)
    have t3 := hInv.2.2.1 p p0 p1
    exact ⟨⟨g1, g2⟩, by omega, by omega⟩⟩
  have hb2 : ∀ p, 0 ≤ p → p < M 60 11 → 0 ≤ M 70 p ∧ 1 ≤ M 71 p := fun p p0 p1 => by
    have t3 := hB.2.2 p p0 p1
    omega
  have hc := cx_166v (b := b) (A := A) (h0 := h) (d := 51) (M := iv_num h) (N0 := M) (l1 := -2147483648) (u1 := 2147483647) (l2 := -2147483648) (u2 := 2147483647) (l3 := -2147483648) (u3 := 2147483647) (x1 := m1.toInt) (x2 := m2.toInt) (x3 := m3.toInt) (post := fun o M1 => ∃ lo hi n, o = some (0, 0, lo, hi, n) ∧ (tw_P ((0 ≤ m2.toInt ∧ m2.toInt < M 60 11) ∧ (0 ≤ m3.toInt ∧ m3.toInt ≤ 360)) M m1.toInt n (tw_oT tw_oC M m1.toInt m2.toInt m3.toInt) ∧ ∀ (q : Nat) (j : Int), ¬ (12 ≤ q ∧ q ≤ 14) → ¬ (q = 48 ∨ q = 49) → M1 q j = iv_num h q j)) hT hC0 hB (fun lo hi n M1 x1 x2 => ⟨lo, hi, n, rfl, x1, x2⟩)
  have hm := fun (h1 : g_H) => ms_offV (A := A) (h0 := h1) (d := 53) (M := M) (l1 := -2147483648) (u1 := 2147483647) (l2 := -2147483648) (u2 := 2147483647) (l3 := -2147483648) (u3 := 2147483647) (a := m1.toInt) (b := m2.toInt) (c := m3.toInt) (post := fun o M2 => (∃ lo hi n, o = some (0, 0, lo, hi, n) ∧ (tw_P ((0 ≤ m2.toInt ∧ m2.toInt < M 60 11) ∧ (0 ≤ m3.toInt ∧ m3.toInt ≤ 360)) M m1.toInt n (tw_oT tw_oR M m1.toInt m2.toInt m3.toInt) ∧ xm_cor M M2)) ∧ xm_Inv M2) hInv (fun o M2 x1 x2 => by
    obtain ⟨lo, hi, n, rfl, x1⟩ := x1
    exact ⟨⟨lo, hi, n, rfl, x1, x2⟩, xm_Inv_cor x2 hInv⟩)
  refine ⟨[(2, 0, 0, 0, 0), (0, 0, -2147483648, 2147483647, m1.toInt), (0, 0, -2147483648, 2147483647, m2.toInt), (0, 0, -2147483648, 2147483647, m3.toInt)], [(2, 60, 0, 0, 0), (0, 0, -2147483648, 2147483647, m1.toInt), (0, 0, -2147483648, 2147483647, m2.toInt), (0, 0, -2147483648, 2147483647, m3.toInt)], _, _, ⟨rfl, iv_i m1, iv_i m2, iv_i m3, trivial⟩, ⟨rfl, iv_i m1, iv_i m2, iv_i m3, trivial⟩, fun n n' M1 M2 h1 h2 => ⟨fun _ => tw_o2 hr hb2 h1.1 h2.1, fun x => h2.2 104 x (by unfold xm_scr; omega), fun x => h2.2 105 x (by unfold xm_scr; omega), tw_lmR hR h1.2 h2.2⟩, hc, hm⟩)
