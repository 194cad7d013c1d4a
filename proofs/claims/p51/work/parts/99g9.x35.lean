-- pairs of calls: turn, turning, jams
set_option maxRecDepth 20000
/-- both sides have answered, what they hold is as it was -/
theorem tw_lmR {b : Bool} {U V U' V' : xa_M} (h : lm_R b (xj U V)) (e1 : ∀ (q : Nat) (j : Int), ¬ (12 ≤ q ∧ q ≤ 14) → ¬ (q = 48 ∨ q = 49) → U' q j = U q j) (e2 : xm_cor V V') : lm_R b (xj U' V') := by
  refine lm_R_k (fun q j hC => ?_) h
  unfold xj
  by_cases hq : q < 60
  · rw [if_pos hq, if_pos hq]
    exact e1 q j (by first | (have t9 := lm_Cq hC; omega) | (unfold lm_C at hC; omega)) (by first | (have t9 := lm_Cq hC; omega) | (unfold lm_C at hC; omega))
  · rw [if_neg hq, if_neg hq]
    exact e2 q j (by first | (have t9 := lm_Cq hC; unfold xm_scr; omega) | (unfold lm_C at hC; unfold xm_scr; omega))
theorem iv_p45 (A : Nat → Nat) (cmp : Bool) : iv_pair (iv_J A) A 45 225 [0] cmp false := iv_armV (fun W b h as M hJ hM hInv hs hR => by
  obtain ⟨m1, ys, rfl, -, hs⟩ := iv_spc hs
  obtain rfl := iv_sp0 hs
  have b0 := xm_f0 (xa_H_Mok hM)
  have b6 := xm_f6 (xa_H_Mok hM)
  have r1 : iv_num h 1 9 = M 60 0 := hR.1.1
  have r2 : iv_num h 1 10 = M 60 6 := hR.1.2.1
  have r3 : ∀ i, 0 ≤ i → i < 14 → iv_num h 2 i = M 61 i ∧ iv_num h 3 i = M 62 i ∧ iv_num h 5 i = M 64 i ∧ iv_num h 6 i = M 65 i ∧ iv_num h 4 i = M 63 i := hR.1.2.2.1
  have r4 : ∀ i, 0 ≤ i → i < 16 → iv_num h 7 i = M 66 i ∧ iv_num h 8 i = M 67 i := hR.1.2.2.2
  have hS := hR.2
  have hMk := xa_H_Mok hM
  have hT := tu_M_of hMk hInv
  have hr := xm_rng_I hMk hInv
  have hC0 : tu_C (iv_num h) M := ⟨r2, r4, fun w w0 w1 => ⟨(r3 w w0 w1).2.2.1, (r3 w w0 w1).2.2.2.2⟩⟩
  have hc := cx_45v (b := b) (A := A) (h0 := h) (d := 52) (M := iv_num h) (N0 := M) (l1 := -2147483648) (u1 := 2147483647) (x1 := m1.toInt) (post := fun o M1 => ∃ lo hi n, o = some (0, 0, lo, hi, n) ∧ (tw_A M m1.toInt n (fun _ v => v = 0) ∧ ∀ (q : Nat) (j : Int), ¬ (12 ≤ q ∧ q ≤ 14) → ¬ (q = 48 ∨ q = 49) → M1 q j = iv_num h q j)) hT hC0 (fun lo hi n M1 x1 x2 => ⟨lo, hi, n, rfl, x1, x2⟩)
  have hm := fun (h1 : g_H) => ms_turnV (A := A) (h0 := h1) (d := 54) (M := M) (l1 := -2147483648) (u1 := 2147483647) (a := m1.toInt) (post := fun o M2 => (∃ lo hi n, o = some (0, 0, lo, hi, n) ∧ (tw_A M m1.toInt n (fun _ v => v = 0) ∧ xm_cor M M2)) ∧ xm_Inv M2) hInv (fun o M2 x1 x2 => by
    obtain ⟨lo, hi, n, rfl, x1⟩ := x1
    exact ⟨⟨lo, hi, n, rfl, x1, x2⟩, xm_Inv_cor x2 hInv⟩)
  refine ⟨[(2, 0, 0, 0, 0), (0, 0, -2147483648, 2147483647, m1.toInt)], [(2, 60, 0, 0, 0), (0, 0, -2147483648, 2147483647, m1.toInt)], _, _, ⟨rfl, iv_i m1, trivial⟩, ⟨rfl, iv_i m1, trivial⟩, fun n n' M1 M2 h1 h2 => ⟨fun _ => tw_A_one hr h1.1 h2.1 (fun _ _ _ _ _ _ _ e e' => e.trans e'.symm), fun x => h2.2 104 x (by unfold xm_scr; omega), fun x => h2.2 105 x (by unfold xm_scr; omega), tw_lmR hR h1.2 h2.2⟩, hc, hm⟩)
theorem iv_p61 (A : Nat → Nat) (cmp : Bool) : iv_pair (iv_J A) A 61 232 [] cmp false := iv_armV (fun W b h as M hJ hM hInv hs hR => by
  obtain rfl := iv_sp0 hs
  have b0 := xm_f0 (xa_H_Mok hM)
  have b6 := xm_f6 (xa_H_Mok hM)
  have r1 : iv_num h 1 9 = M 60 0 := hR.1.1
  have r2 : iv_num h 1 10 = M 60 6 := hR.1.2.1
  have r3 : ∀ i, 0 ≤ i → i < 14 → iv_num h 2 i = M 61 i ∧ iv_num h 3 i = M 62 i ∧ iv_num h 5 i = M 64 i ∧ iv_num h 6 i = M 65 i ∧ iv_num h 4 i = M 63 i := hR.1.2.2.1
  have r4 : ∀ i, 0 ≤ i → i < 16 → iv_num h 7 i = M 66 i ∧ iv_num h 8 i = M 67 i := hR.1.2.2.2
  have hS := hR.2
  have hMk := xa_H_Mok hM
  have hT := tu_M_of hMk hInv
  have hr := xm_rng_I hMk hInv
  have hC0 : tu_C (iv_num h) M := ⟨r2, r4, fun w w0 w1 => ⟨(r3 w w0 w1).2.2.1, (r3 w w0 w1).2.2.2.2⟩⟩
  have hc := cx_61v (b := b) (A := A) (h0 := h) (d := 53) (M := iv_num h) (N0 := M)   (post := fun o M1 => ∃ lo hi n, o = some (0, 0, lo, hi, n) ∧ (tw_61 M n ∧ ∀ (q : Nat) (j : Int), ¬ (12 ≤ q ∧ q ≤ 14) → ¬ (q = 48 ∨ q = 49) → M1 q j = iv_num h q j)) hT hC0 (fun lo hi n M1 x1 x2 => ⟨lo, hi, n, rfl, x1, x2⟩)
  have hm := fun (h1 : g_H) => ms_turningV (A := A) (h0 := h1) (d := 55) (M := M)   (post := fun o M2 => (∃ lo hi n, o = some (0, 0, lo, hi, n) ∧ (tw_61 M n ∧ xm_cor M M2)) ∧ xm_Inv M2) hInv (fun o M2 x1 x2 => by
    obtain ⟨lo, hi, n, rfl, x1⟩ := x1
    exact ⟨⟨lo, hi, n, rfl, x1, x2⟩, xm_Inv_cor x2 hInv⟩)
  refine ⟨[(2, 0, 0, 0, 0)], [(2, 60, 0, 0, 0)], _, _, ⟨rfl, trivial⟩, ⟨rfl, trivial⟩, fun n n' M1 M2 h1 h2 => ⟨fun _ => tw_61_one hr h1.1 h2.1, fun x => h2.2 104 x (by unfold xm_scr; omega), fun x => h2.2 105 x (by unfold xm_scr; omega), tw_lmR hR h1.2 h2.2⟩, hc, hm⟩)
theorem iv_p62 (A : Nat → Nat) (cmp : Bool) : iv_pair (iv_J A) A 62 233 [] cmp false := iv_armV (fun W b h as M hJ hM hInv hs hR => by
  obtain rfl := iv_sp0 hs
  have b0 := xm_f0 (xa_H_Mok hM)
  have b6 := xm_f6 (xa_H_Mok hM)
  have r1 : iv_num h 1 9 = M 60 0 := hR.1.1
  have r2 : iv_num h 1 10 = M 60 6 := hR.1.2.1
  have r3 : ∀ i, 0 ≤ i → i < 14 → iv_num h 2 i = M 61 i ∧ iv_num h 3 i = M 62 i ∧ iv_num h 5 i = M 64 i ∧ iv_num h 6 i = M 65 i ∧ iv_num h 4 i = M 63 i := hR.1.2.2.1
  have r4 : ∀ i, 0 ≤ i → i < 16 → iv_num h 7 i = M 66 i ∧ iv_num h 8 i = M 67 i := hR.1.2.2.2
  have hS := hR.2
  have hMk := xa_H_Mok hM
  have hT := tu_M_of hMk hInv
  have hr := xm_rng_I hMk hInv
  have hC0 : tu_C (iv_num h) M := ⟨r2, r4, fun w w0 w1 => ⟨(r3 w w0 w1).2.2.1, (r3 w w0 w1).2.2.2.2⟩⟩
  have hc := cx_62v (b := b) (A := A) (h0 := h) (d := 53) (M := iv_num h) (N0 := M)   (post := fun o M1 => ∃ lo hi n, o = some (0, 0, lo, hi, n) ∧ (tw_62 M n ∧ ∀ (q : Nat) (j : Int), ¬ (12 ≤ q ∧ q ≤ 14) → ¬ (q = 48 ∨ q = 49) → M1 q j = iv_num h q j)) hT hC0 (fun lo hi n M1 x1 x2 => ⟨lo, hi, n, rfl, x1, x2⟩)
  have hm := fun (h1 : g_H) => ms_jamsV (A := A) (h0 := h1) (d := 55) (M := M)   (post := fun o M2 => (∃ lo hi n, o = some (0, 0, lo, hi, n) ∧ (tw_62 M n ∧ xm_cor M M2)) ∧ xm_Inv M2) hInv (fun o M2 x1 x2 => by
    obtain ⟨lo, hi, n, rfl, x1⟩ := x1
    exact ⟨⟨lo, hi, n, rfl, x1, x2⟩, xm_Inv_cor x2 hInv⟩)
  refine ⟨[(2, 0, 0, 0, 0)], [(2, 60, 0, 0, 0)], _, _, ⟨rfl, trivial⟩, ⟨rfl, trivial⟩, fun n n' M1 M2 h1 h2 => ⟨fun _ => tw_62_one hr h1.1 h2.1, fun x => h2.2 104 x (by unfold xm_scr; omega), fun x => h2.2 105 x (by unfold xm_scr; omega), tw_lmR hR h1.2 h2.2⟩, hc, hm⟩)
theorem iv_p66 (A : Nat → Nat) (cmp : Bool) : iv_pair (iv_J A) A 66 272 [0, 0] cmp false := iv_armV (fun W b h as M hJ hM hInv hs hR => by
  obtain ⟨m1, ys, rfl, -, hs⟩ := iv_spc hs
  obtain ⟨m2, ys, rfl, -, hs⟩ := iv_spc hs
  obtain rfl := iv_sp0 hs
  have b0 := xm_f0 (xa_H_Mok hM)
  have b6 := xm_f6 (xa_H_Mok hM)
  have r1 : iv_num h 1 9 = M 60 0 := hR.1.1
  have r2 : iv_num h 1 10 = M 60 6 := hR.1.2.1
  have r3 : ∀ i, 0 ≤ i → i < 14 → iv_num h 2 i = M 61 i ∧ iv_num h 3 i = M 62 i ∧ iv_num h 5 i = M 64 i ∧ iv_num h 6 i = M 65 i ∧ iv_num h 4 i = M 63 i := hR.1.2.2.1
  have r4 : ∀ i, 0 ≤ i → i < 16 → iv_num h 7 i = M 66 i ∧ iv_num h 8 i = M 67 i := hR.1.2.2.2
  have hS := hR.2
  have hMk := xa_H_Mok hM
  have hT := tu_M_of hMk hInv
  have hr := xm_rng_I hMk hInv
  have hC0 : tu_C (iv_num h) M := ⟨r2, r4, fun w w0 w1 => ⟨(r3 w w0 w1).2.2.1, (r3 w w0 w1).2.2.2.2⟩⟩
  have hc := cx_66v (b := b) (A := A) (h0 := h) (d := 51) (M := iv_num h) (N0 := M) (l1 := -2147483648) (u1 := 2147483647) (l2 := -2147483648) (u2 := 2147483647) (x1 := m1.toInt) (x2 := m2.toInt) (post := fun o M1 => ∃ lo hi n, o = some (0, 0, lo, hi, n) ∧ (tw_66 M m1.toInt m2.toInt n ∧ ∀ (q : Nat) (j : Int), ¬ (12 ≤ q ∧ q ≤ 14) → ¬ (q = 48 ∨ q = 49) → M1 q j = iv_num h q j)) hT hC0 (fun lo hi n M1 x1 x2 => ⟨lo, hi, n, rfl, x1, x2⟩)
  have hm := fun (h1 : g_H) => ms_showV (A := A) (h0 := h1) (d := 53) (M := M) (l1 := -2147483648) (u1 := 2147483647) (l2 := -2147483648) (u2 := 2147483647) (a := m1.toInt) (b := m2.toInt) (post := fun o M2 => (∃ lo hi n, o = some (0, 0, lo, hi, n) ∧ (tw_66 M m1.toInt m2.toInt n ∧ xm_cor M M2)) ∧ xm_Inv M2) hInv (fun o M2 x1 x2 => by
    obtain ⟨lo, hi, n, rfl, x1⟩ := x1
    exact ⟨⟨lo, hi, n, rfl, x1, x2⟩, xm_Inv_cor x2 hInv⟩)
  refine ⟨[(2, 0, 0, 0, 0), (0, 0, -2147483648, 2147483647, m1.toInt), (0, 0, -2147483648, 2147483647, m2.toInt)], [(2, 60, 0, 0, 0), (0, 0, -2147483648, 2147483647, m1.toInt), (0, 0, -2147483648, 2147483647, m2.toInt)], _, _, ⟨rfl, iv_i m1, iv_i m2, trivial⟩, ⟨rfl, iv_i m1, iv_i m2, trivial⟩, fun n n' M1 M2 h1 h2 => ⟨fun _ => tw_66_one hr h1.1 h2.1, fun x => h2.2 104 x (by unfold xm_scr; omega), fun x => h2.2 105 x (by unfold xm_scr; omega), tw_lmR hR h1.2 h2.2⟩, hc, hm⟩)
theorem iv_p72 (A : Nat → Nat) (cmp : Bool) : iv_pair (iv_J A) A 72 274 [0, 0] cmp false := iv_armV (fun W b h as M hJ hM hInv hs hR => by
  obtain ⟨m1, ys, rfl, -, hs⟩ := iv_spc hs
  obtain ⟨m2, ys, rfl, -, hs⟩ := iv_spc hs
  obtain rfl := iv_sp0 hs
  have b0 := xm_f0 (xa_H_Mok hM)
  have b6 := xm_f6 (xa_H_Mok hM)
  have r1 : iv_num h 1 9 = M 60 0 := hR.1.1
  have r2 : iv_num h 1 10 = M 60 6 := hR.1.2.1
  have r3 : ∀ i, 0 ≤ i → i < 14 → iv_num h 2 i = M 61 i ∧ iv_num h 3 i = M 62 i ∧ iv_num h 5 i = M 64 i ∧ iv_num h 6 i = M 65 i ∧ iv_num h 4 i = M 63 i := hR.1.2.2.1
  have r4 : ∀ i, 0 ≤ i → i < 16 → iv_num h 7 i = M 66 i ∧ iv_num h 8 i = M 67 i := hR.1.2.2.2
  have hS := hR.2
  have hMk := xa_H_Mok hM
  have hT := tu_M_of hMk hInv
  have hr := xm_rng_I hMk hInv
  have hC0 : tu_C (iv_num h) M := ⟨r2, r4, fun w w0 w1 => ⟨(r3 w w0 w1).2.2.1, (r3 w w0 w1).2.2.2.2⟩⟩
  have hc := cx_72v (b := b) (A := A) (h0 := h) (d := 52) (M := iv_num h) (N0 := M) (l1 := -2147483648) (u1 := 2147483647) (l2 := -2147483648) (u2 := 2147483647) (x1 := m1.toInt) (x2 := m2.toInt) (post := fun o M1 => ∃ lo hi n, o = some (0, 0, lo, hi, n) ∧ (tw_72 M m1.toInt m2.toInt n ∧ ∀ (q : Nat) (j : Int), ¬ (12 ≤ q ∧ q ≤ 14) → ¬ (q = 48 ∨ q = 49) → M1 q j = iv_num h q j)) hT hC0 (fun lo hi n M1 x1 x2 => ⟨lo, hi, n, rfl, x1, x2⟩)
  have hm := fun (h1 : g_H) => ms_togetherV (A := A) (h0 := h1) (d := 53) (M := M) (l1 := -2147483648) (u1 := 2147483647) (l2 := -2147483648) (u2 := 2147483647) (a := m1.toInt) (b := m2.toInt) (post := fun o M2 => (∃ lo hi n, o = some (0, 0, lo, hi, n) ∧ (tw_72 M m1.toInt m2.toInt n ∧ xm_cor M M2)) ∧ xm_Inv M2) hInv (fun o M2 x1 x2 => by
    obtain ⟨lo, hi, n, rfl, x1⟩ := x1
    exact ⟨⟨lo, hi, n, rfl, x1, x2⟩, xm_Inv_cor x2 hInv⟩)
  refine ⟨[(2, 0, 0, 0, 0), (0, 0, -2147483648, 2147483647, m1.toInt), (0, 0, -2147483648, 2147483647, m2.toInt)], [(2, 60, 0, 0, 0), (0, 0, -2147483648, 2147483647, m1.toInt), (0, 0, -2147483648, 2147483647, m2.toInt)], _, _, ⟨rfl, iv_i m1, iv_i m2, trivial⟩, ⟨rfl, iv_i m1, iv_i m2, trivial⟩, fun n n' M1 M2 h1 h2 => ⟨fun _ => tw_72_one hr h1.1 h2.1, fun x => h2.2 104 x (by unfold xm_scr; omega), fun x => h2.2 105 x (by unfold xm_scr; omega), tw_lmR hR h1.2 h2.2⟩, hc, hm⟩)
