-- breaks: the pair
set_option maxRecDepth 20000
/-- both sides have answered, what they hold is as it was -/
theorem xq_lmR {b : Bool} {U V U' V' : xa_M} (h : lm_R b (xj U V)) (e1 : ∀ (q : Nat) (j : Int), lm_C q j → q < 60 → U' q j = U q j) (e2 : xm_cor V V') : lm_R b (xj U' V') := by
  refine lm_R_k (fun q j hC => ?_) h
  unfold xj
  by_cases hq : q < 60
  · rw [if_pos hq, if_pos hq]
    exact e1 q j hC hq
  · rw [if_neg hq, if_neg hq]
    exact e2 q j (by first | (have t9 := lm_Cq hC; unfold xm_scr; omega) | (unfold lm_C at hC; unfold xm_scr; omega))
theorem iv_p194 (A : Nat → Nat) (cmp : Bool) : iv_pair (iv_J A) A 194 291 [] cmp false := iv_armV (fun W b h as M hJ hM hInv hs hR => by
  obtain rfl := iv_sp0 hs
  have b0 := xm_f0 (xa_H_Mok hM)
  have b6 := xm_f6 (xa_H_Mok hM)
  have r1 : iv_num h 1 9 = M 60 0 := hR.1.1
  have r2 : iv_num h 1 10 = M 60 6 := hR.1.2.1
  have r3 : ∀ i, 0 ≤ i → i < 14 → iv_num h 2 i = M 61 i ∧ iv_num h 3 i = M 62 i ∧ iv_num h 5 i = M 64 i ∧ iv_num h 6 i = M 65 i ∧ iv_num h 4 i = M 63 i := hR.1.2.2.1
  have r4 : ∀ i, 0 ≤ i → i < 16 → iv_num h 7 i = M 66 i ∧ iv_num h 8 i = M 67 i := hR.1.2.2.2
  have hS := hR.2
  have hX : lm_X (xj (iv_num h) M) := hR.2.2
  have s1 : iv_num h 43 4 = M 60 61 := hX.2.2.1
  have s4 : ∀ i, 0 ≤ i → i < 12 → iv_num h 44 i = M 100 i := hX.2.2.2.2.2.2.1
  have s5 : ∀ i, 0 ≤ i → i < 12 → iv_num h 45 i = M 101 i := hX.2.2.2.2.2.2.2.1
  have s6 : ∀ i, 0 ≤ i → i < 12 → iv_num h 46 i = M 102 i := hX.2.2.2.2.2.2.2.2.1
  have s7 : ∀ i, 0 ≤ i → i < 12 → iv_num h 47 i = M 103 i := hX.2.2.2.2.2.2.2.2.2.1
  have b61 := xm_f61 (xa_H_Mok hM)
  have e : br_b (br_no (iv_num h 44) (iv_num h 45) (iv_num h 46) (iv_num h 47) (iv_num h 5) (iv_num h 6) (iv_num h 4) (iv_num h 1 9)) (iv_num h 43 4).toNat = br_b (br_no (M 100) (M 101) (M 102) (M 103) (M 64) (M 65) (M 63) (M 60 0)) (M 60 61).toNat := by
    rw [s1]
    refine br_b_e _ (fun k hk => ?_)
    have k1 : (k : Int) < 12 := by omega
    unfold br_no
    rw [r1]
    have is : ∀ w, 0 ≤ w → w < M 60 0 → (br_is (iv_num h 44) (iv_num h 45) (iv_num h 46) (iv_num h 47) (iv_num h 5) (iv_num h 6) (iv_num h 4) (k : Int) w ↔ br_is (M 100) (M 101) (M 102) (M 103) (M 64) (M 65) (M 63) (k : Int) w) := fun w w0 w1 => by
      obtain ⟨-, -, g3, g4, g5⟩ := r3 w w0 (by omega)
      unfold br_is
      rw [s4 _ (by omega) k1, s5 _ (by omega) k1, s6 _ (by omega) k1, s7 _ (by omega) k1, g3, g4, g5]
    exact ⟨fun h w w0 w1 hh => h w w0 w1 ((is w w0 w1).mpr hh), fun h w w0 w1 hh => h w w0 w1 ((is w w0 w1).mp hh)⟩
  have hc := cw_194 (b := b) (A := A) (h0 := h) (d := 54) (M := iv_num h) (post := fun o M1 => ∃ lo hi n, o = some (0, 0, lo, hi, n) ∧ (n = br_b (br_no (M 100) (M 101) (M 102) (M 103) (M 64) (M 65) (M 63) (M 60 0)) (M 60 61).toNat ∧ ∀ q j, ¬ q = 48 → ¬ q = 49 → M1 q j = iv_num h q j)) (by omega) (by omega) (fun r M1 e1 e2 => ⟨_, _, r, rfl, e1.trans e, e2⟩)
  have hm := fun (h1 : g_H) => ms_breaksF (A := A) (h0 := h1) (d := 57) (M := M) (post := fun o M2 => (∃ lo hi n, o = some (0, 0, lo, hi, n) ∧ (n = br_b (br_no (M 100) (M 101) (M 102) (M 103) (M 64) (M 65) (M 63) (M 60 0)) (M 60 61).toNat ∧ xm_cor M M2)) ∧ xm_Inv M2) hInv (fun lo hi r M2 e1 e2 => ⟨⟨lo, hi, r, rfl, e1, e2⟩, xm_Inv_cor e2 hInv⟩)
  refine ⟨[(2, 0, 0, 0, 0)], [(2, 60, 0, 0, 0)], _, _, ⟨rfl, trivial⟩, ⟨rfl, trivial⟩, fun n n' M1 M2 h1 h2 => ⟨fun _ => h1.1.trans h2.1.symm, fun x => h2.2 104 x (by unfold xm_scr; omega), fun x => h2.2 105 x (by unfold xm_scr; omega), xq_lmR hR (fun q j hC hq => h1.2 q j (by first | (have t9 := lm_Cq hC; omega) | (unfold lm_C at hC; omega)) (by first | (have t9 := lm_Cq hC; omega) | (unfold lm_C at hC; omega))) h2.2⟩, hc, hm⟩)
