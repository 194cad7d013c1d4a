-- bounds of the model's cells; what is left alone (made by wip/p24/xa/xm2.py)
section XM
variable {M M1 M2 : xa_M}
theorem xm_f0 (hM : xa_Mok xm_I M) : 0 ≤ M 60 0 ∧ M 60 0 ≤ 14 := hM 60 _ _ rfl 0 (by decide) (show (0 : Nat) < 2 by decide)
theorem xm_t61 (hM : xa_Mok xm_I M) (j : Int) (h0 : 0 ≤ j) (h1 : j < 14) : 0 ≤ M 61 j ∧ M 61 j ≤ 400 := by
  obtain ⟨n, rfl⟩ := Int.eq_ofNat_of_zero_le h0
  exact hM 61 _ _ rfl n (show n < 14 by omega) (show (0 : Nat) < 2 by decide)
theorem xm_t62 (hM : xa_Mok xm_I M) (j : Int) (h0 : 0 ≤ j) (h1 : j < 14) : 0 ≤ M 62 j ∧ M 62 j ≤ 400 := by
  obtain ⟨n, rfl⟩ := Int.eq_ofNat_of_zero_le h0
  exact hM 62 _ _ rfl n (show n < 14 by omega) (show (0 : Nat) < 2 by decide)
theorem xm_t63 (hM : xa_Mok xm_I M) (j : Int) (h0 : 0 ≤ j) (h1 : j < 14) : 0 ≤ M 63 j ∧ M 63 j ≤ 400 := by
  obtain ⟨n, rfl⟩ := Int.eq_ofNat_of_zero_le h0
  exact hM 63 _ _ rfl n (show n < 14 by omega) (show (0 : Nat) < 2 by decide)
theorem xm_t64 (hM : xa_Mok xm_I M) (j : Int) (h0 : 0 ≤ j) (h1 : j < 14) : 0 ≤ M 64 j ∧ M 64 j ≤ 9 := by
  obtain ⟨n, rfl⟩ := Int.eq_ofNat_of_zero_le h0
  exact hM 64 _ _ rfl n (show n < 14 by omega) (show (0 : Nat) < 2 by decide)
theorem xm_t65 (hM : xa_Mok xm_I M) (j : Int) (h0 : 0 ≤ j) (h1 : j < 14) : 0 ≤ M 65 j ∧ M 65 j ≤ 9 := by
  obtain ⟨n, rfl⟩ := Int.eq_ofNat_of_zero_le h0
  exact hM 65 _ _ rfl n (show n < 14 by omega) (show (0 : Nat) < 2 by decide)
theorem xm_f6 (hM : xa_Mok xm_I M) : 0 ≤ M 60 6 ∧ M 60 6 ≤ 16 := hM 60 _ _ rfl 6 (by decide) (show (0 : Nat) < 2 by decide)
theorem xm_t66 (hM : xa_Mok xm_I M) (j : Int) (h0 : 0 ≤ j) (h1 : j < 16) : 0 ≤ M 66 j ∧ M 66 j ≤ 13 := by
  obtain ⟨n, rfl⟩ := Int.eq_ofNat_of_zero_le h0
  exact hM 66 _ _ rfl n (show n < 16 by omega) (show (0 : Nat) < 2 by decide)
theorem xm_t67 (hM : xa_Mok xm_I M) (j : Int) (h0 : 0 ≤ j) (h1 : j < 16) : 0 ≤ M 67 j ∧ M 67 j ≤ 13 := by
  obtain ⟨n, rfl⟩ := Int.eq_ofNat_of_zero_le h0
  exact hM 67 _ _ rfl n (show n < 16 by omega) (show (0 : Nat) < 2 by decide)
theorem xm_t68 (hM : xa_Mok xm_I M) (j : Int) (h0 : 0 ≤ j) (h1 : j < 10) : (-500) ≤ M 68 j ∧ M 68 j ≤ 500 := by
  obtain ⟨n, rfl⟩ := Int.eq_ofNat_of_zero_le h0
  exact hM 68 _ _ rfl n (show n < 10 by omega) (show (0 : Nat) < 2 by decide)
theorem xm_t69 (hM : xa_Mok xm_I M) (j : Int) (h0 : 0 ≤ j) (h1 : j < 10) : (-500) ≤ M 69 j ∧ M 69 j ≤ 500 := by
  obtain ⟨n, rfl⟩ := Int.eq_ofNat_of_zero_le h0
  exact hM 69 _ _ rfl n (show n < 10 by omega) (show (0 : Nat) < 2 by decide)
theorem xm_f11 (hM : xa_Mok xm_I M) : 0 ≤ M 60 11 ∧ M 60 11 ≤ 8 := hM 60 _ _ rfl 11 (by decide) (show (0 : Nat) < 2 by decide)
theorem xm_t70 (hM : xa_Mok xm_I M) (j : Int) (h0 : 0 ≤ j) (h1 : j < 8) : 0 ≤ M 70 j ∧ M 70 j ≤ 2000 := by
  obtain ⟨n, rfl⟩ := Int.eq_ofNat_of_zero_le h0
  exact hM 70 _ _ rfl n (show n < 8 by omega) (show (0 : Nat) < 2 by decide)
theorem xm_t71 (hM : xa_Mok xm_I M) (j : Int) (h0 : 0 ≤ j) (h1 : j < 8) : 0 ≤ M 71 j ∧ M 71 j ≤ 2000 := by
  obtain ⟨n, rfl⟩ := Int.eq_ofNat_of_zero_le h0
  exact hM 71 _ _ rfl n (show n < 8 by omega) (show (0 : Nat) < 2 by decide)
theorem xm_f15 (hM : xa_Mok xm_I M) : 10 ≤ M 60 15 ∧ M 60 15 ≤ 400 := hM 60 _ _ rfl 15 (by decide) (show (0 : Nat) < 2 by decide)
theorem xm_f16 (hM : xa_Mok xm_I M) : 10 ≤ M 60 16 ∧ M 60 16 ≤ 400 := hM 60 _ _ rfl 16 (by decide) (show (0 : Nat) < 2 by decide)
theorem xm_t73 (hM : xa_Mok xm_I M) (j : Int) (h0 : 0 ≤ j) (h1 : j < 80) : (-128) ≤ M 73 j ∧ M 73 j ≤ 127 := by
  obtain ⟨n, rfl⟩ := Int.eq_ofNat_of_zero_le h0
  exact hM 73 _ _ rfl n (show n < 80 by omega) (show (0 : Nat) < 2 by decide)
theorem xm_f18 (hM : xa_Mok xm_I M) : 0 ≤ M 60 18 ∧ M 60 18 ≤ 80 := hM 60 _ _ rfl 18 (by decide) (show (0 : Nat) < 2 by decide)
theorem xm_f20 (hM : xa_Mok xm_I M) : 0 ≤ M 60 20 ∧ M 60 20 ≤ 32 := hM 60 _ _ rfl 20 (by decide) (show (0 : Nat) < 2 by decide)
theorem xm_t75 (hM : xa_Mok xm_I M) (j : Int) (h0 : 0 ≤ j) (h1 : j < 10) : (-1000000000000000) ≤ M 75 j ∧ M 75 j ≤ 1000000000000000 := by
  obtain ⟨n, rfl⟩ := Int.eq_ofNat_of_zero_le h0
  exact hM 75 _ _ rfl n (show n < 10 by omega) (show (1 : Nat) < 2 by decide)
theorem xm_t76 (hM : xa_Mok xm_I M) (j : Int) (h0 : 0 ≤ j) (h1 : j < 10) : 0 ≤ M 76 j ∧ M 76 j ≤ 1000000000000000 := by
  obtain ⟨n, rfl⟩ := Int.eq_ofNat_of_zero_le h0
  exact hM 76 _ _ rfl n (show n < 10 by omega) (show (1 : Nat) < 2 by decide)
theorem xm_t77 (hM : xa_Mok xm_I M) (j : Int) (h0 : 0 ≤ j) (h1 : j < 10) : 0 ≤ M 77 j ∧ M 77 j ≤ 1 := by
  obtain ⟨n, rfl⟩ := Int.eq_ofNat_of_zero_le h0
  exact hM 77 _ _ rfl n (show n < 10 by omega) (show (0 : Nat) < 2 by decide)
theorem xm_f25 (hM : xa_Mok xm_I M) : (-400000000000000000) ≤ M 60 25 ∧ M 60 25 ≤ 400000000000000000 := hM 60 _ _ rfl 25 (by decide) (show (1 : Nat) < 2 by decide)
theorem xm_f26 (hM : xa_Mok xm_I M) : 0 ≤ M 60 26 ∧ M 60 26 ≤ 400000000000000000 := hM 60 _ _ rfl 26 (by decide) (show (1 : Nat) < 2 by decide)
theorem xm_t78 (hM : xa_Mok xm_I M) (j : Int) (h0 : 0 ≤ j) (h1 : j < 10) : 0 ≤ M 78 j ∧ M 78 j ≤ 99 := by
  obtain ⟨n, rfl⟩ := Int.eq_ofNat_of_zero_le h0
  exact hM 78 _ _ rfl n (show n < 10 by omega) (show (0 : Nat) < 2 by decide)
theorem xm_t79 (hM : xa_Mok xm_I M) (j : Int) (h0 : 0 ≤ j) (h1 : j < 10) : 0 ≤ M 79 j ∧ M 79 j ≤ 15 := by
  obtain ⟨n, rfl⟩ := Int.eq_ofNat_of_zero_le h0
  exact hM 79 _ _ rfl n (show n < 10 by omega) (show (0 : Nat) < 2 by decide)
theorem xm_f29 (hM : xa_Mok xm_I M) : 0 ≤ M 60 29 ∧ M 60 29 ≤ 10 := hM 60 _ _ rfl 29 (by decide) (show (0 : Nat) < 2 by decide)
theorem xm_t80 (hM : xa_Mok xm_I M) (j : Int) (h0 : 0 ≤ j) (h1 : j < 14) : 0 ≤ M 80 j ∧ M 80 j ≤ 13 := by
  obtain ⟨n, rfl⟩ := Int.eq_ofNat_of_zero_le h0
  exact hM 80 _ _ rfl n (show n < 14 by omega) (show (0 : Nat) < 2 by decide)
theorem xm_f32 (hM : xa_Mok xm_I M) : 0 ≤ M 60 32 ∧ M 60 32 ≤ 14 := hM 60 _ _ rfl 32 (by decide) (show (0 : Nat) < 2 by decide)
theorem xm_t83 (hM : xa_Mok xm_I M) (j : Int) (h0 : 0 ≤ j) (h1 : j < 14) : 0 ≤ M 83 j ∧ M 83 j ≤ 1 := by
  obtain ⟨n, rfl⟩ := Int.eq_ofNat_of_zero_le h0
  exact hM 83 _ _ rfl n (show n < 14 by omega) (show (0 : Nat) < 2 by decide)
theorem xm_t84 (hM : xa_Mok xm_I M) (j : Int) (h0 : 0 ≤ j) (h1 : j < 14) : 0 ≤ M 84 j ∧ M 84 j ≤ 400 := by
  obtain ⟨n, rfl⟩ := Int.eq_ofNat_of_zero_le h0
  exact hM 84 _ _ rfl n (show n < 14 by omega) (show (0 : Nat) < 2 by decide)
theorem xm_f40 (hM : xa_Mok xm_I M) : 0 ≤ M 60 40 ∧ M 60 40 ≤ 80 := hM 60 _ _ rfl 40 (by decide) (show (0 : Nat) < 2 by decide)
theorem xm_f41 (hM : xa_Mok xm_I M) : 0 ≤ M 60 41 ∧ M 60 41 ≤ 100 := hM 60 _ _ rfl 41 (by decide) (show (0 : Nat) < 2 by decide)
theorem xm_t88 (hM : xa_Mok xm_I M) (j : Int) (h0 : 0 ≤ j) (h1 : j < 8) : 0 ≤ M 88 j ∧ M 88 j ≤ 2000 := by
  obtain ⟨n, rfl⟩ := Int.eq_ofNat_of_zero_le h0
  exact hM 88 _ _ rfl n (show n < 8 by omega) (show (0 : Nat) < 2 by decide)
theorem xm_t89 (hM : xa_Mok xm_I M) (j : Int) (h0 : 0 ≤ j) (h1 : j < 8) : 0 ≤ M 89 j ∧ M 89 j ≤ 2000 := by
  obtain ⟨n, rfl⟩ := Int.eq_ofNat_of_zero_le h0
  exact hM 89 _ _ rfl n (show n < 8 by omega) (show (0 : Nat) < 2 by decide)
theorem xm_t93 (hM : xa_Mok xm_I M) (j : Int) (h0 : 0 ≤ j) (h1 : j < 14) : 0 ≤ M 93 j ∧ M 93 j ≤ 13 := by
  obtain ⟨n, rfl⟩ := Int.eq_ofNat_of_zero_le h0
  exact hM 93 _ _ rfl n (show n < 14 by omega) (show (0 : Nat) < 2 by decide)
theorem xm_t94 (hM : xa_Mok xm_I M) (j : Int) (h0 : 0 ≤ j) (h1 : j < 14) : (-1) ≤ M 94 j ∧ M 94 j ≤ 13 := by
  obtain ⟨n, rfl⟩ := Int.eq_ofNat_of_zero_le h0
  exact hM 94 _ _ rfl n (show n < 14 by omega) (show (0 : Nat) < 2 by decide)
theorem xm_f50 (hM : xa_Mok xm_I M) : (-4000000000000) ≤ M 60 50 ∧ M 60 50 ≤ 4000000000000 := hM 60 _ _ rfl 50 (by decide) (show (1 : Nat) < 2 by decide)
theorem xm_f51 (hM : xa_Mok xm_I M) : 0 ≤ M 60 51 ∧ M 60 51 ≤ 4000000000000 := hM 60 _ _ rfl 51 (by decide) (show (1 : Nat) < 2 by decide)
theorem xm_t95 (hM : xa_Mok xm_I M) (j : Int) (h0 : 0 ≤ j) (h1 : j < 8) : 0 ≤ M 95 j ∧ M 95 j ≤ 7 := by
  obtain ⟨n, rfl⟩ := Int.eq_ofNat_of_zero_le h0
  exact hM 95 _ _ rfl n (show n < 8 by omega) (show (0 : Nat) < 2 by decide)
theorem xm_t96 (hM : xa_Mok xm_I M) (j : Int) (h0 : 0 ≤ j) (h1 : j < 223) : 0 ≤ M 96 j ∧ M 96 j ≤ 1 := by
  obtain ⟨n, rfl⟩ := Int.eq_ofNat_of_zero_le h0
  exact hM 96 _ _ rfl n (show n < 223 by omega) (show (0 : Nat) < 2 by decide)
theorem xm_f56 (hM : xa_Mok xm_I M) : 0 ≤ M 60 56 ∧ M 60 56 ≤ 20 := hM 60 _ _ rfl 56 (by decide) (show (0 : Nat) < 2 by decide)
theorem xm_t97 (hM : xa_Mok xm_I M) (j : Int) (h0 : 0 ≤ j) (h1 : j < 20) : 0 ≤ M 97 j ∧ M 97 j ≤ 9999 := by
  obtain ⟨n, rfl⟩ := Int.eq_ofNat_of_zero_le h0
  exact hM 97 _ _ rfl n (show n < 20 by omega) (show (0 : Nat) < 2 by decide)
theorem xm_t98 (hM : xa_Mok xm_I M) (j : Int) (h0 : 0 ≤ j) (h1 : j < 20) : 0 ≤ M 98 j ∧ M 98 j ≤ 1 := by
  obtain ⟨n, rfl⟩ := Int.eq_ofNat_of_zero_le h0
  exact hM 98 _ _ rfl n (show n < 20 by omega) (show (0 : Nat) < 2 by decide)
theorem xm_f59 (hM : xa_Mok xm_I M) : 0 ≤ M 60 59 ∧ M 60 59 ≤ 8 := hM 60 _ _ rfl 59 (by decide) (show (0 : Nat) < 2 by decide)
theorem xm_t99 (hM : xa_Mok xm_I M) (j : Int) (h0 : 0 ≤ j) (h1 : j < 8) : 0 ≤ M 99 j ∧ M 99 j ≤ 999 := by
  obtain ⟨n, rfl⟩ := Int.eq_ofNat_of_zero_le h0
  exact hM 99 _ _ rfl n (show n < 8 by omega) (show (0 : Nat) < 2 by decide)
theorem xm_f61 (hM : xa_Mok xm_I M) : 0 ≤ M 60 61 ∧ M 60 61 ≤ 12 := hM 60 _ _ rfl 61 (by decide) (show (0 : Nat) < 2 by decide)
theorem xm_t105 (hM : xa_Mok xm_I M) (j : Int) (h0 : 0 ≤ j) (h1 : j < 4) : 0 ≤ M 105 j ∧ M 105 j ≤ 1 := by
  obtain ⟨n, rfl⟩ := Int.eq_ofNat_of_zero_le h0
  exact hM 105 _ _ rfl n (show n < 4 by omega) (show (0 : Nat) < 2 by decide)
theorem xm_f68 (hM : xa_Mok xm_I M) : 0 ≤ M 60 68 ∧ M 60 68 ≤ 496 := hM 60 _ _ rfl 68 (by decide) (show (0 : Nat) < 2 by decide)
abbrev xm_scr (q : Nat) (j : Int) : Prop := (74 ≤ q ∧ q ≤ 95) ∨ (q = 60 ∧ ((20 ≤ j ∧ j ≤ 53) ∨ j = 68))
/-- the lasting cells are the same -/
def xm_cor (M M' : xa_M) : Prop := ∀ q j, ¬ xm_scr q j → M' q j = M q j
theorem xm_cor_r : xm_cor M M := fun _ _ _ => rfl
theorem xm_cor_t (h : xm_cor M M1) (h2 : xm_cor M1 M2) : xm_cor M M2 := fun q j hn => (h2 q j hn).trans (h q j hn)
theorem xm_cor_u {q : Nat} {j v : Int} (hs : xm_scr q j) (h : xm_cor M M1) : xm_cor M (xa_up M1 q j v) := by
  intro q' j' hn
  rw [xa_up_ne (fun e => hn (by rw [e.1, e.2]; exact hs))]
  exact h q' j' hn
theorem xm_cor_a {q : Nat} {j v : Int} (hq : (Nat.ble 74 q && Nat.ble q 95) = true) (h : xm_cor M M1) : xm_cor M (xa_up M1 q j v) := by
  rw [Bool.and_eq_true, Nat.ble_eq, Nat.ble_eq] at hq
  exact xm_cor_u (Or.inl hq) h
theorem xm_cor_f {j v : Int} (hj : (20 ≤ j ∧ j ≤ 53) ∨ j = 68) (h : xm_cor M M1) : xm_cor M (xa_up M1 60 j v) := xm_cor_u (Or.inr ⟨rfl, hj⟩) h
theorem xm_corq (h : xm_cor M M1) (q : Nat) (hq : (Nat.ble 61 q && (Nat.ble q 73 || Nat.ble 96 q)) = true) (j : Int) : M1 q j = M q j := by
  rw [Bool.and_eq_true, Bool.or_eq_true, Nat.ble_eq, Nat.ble_eq, Nat.ble_eq] at hq
  exact h q j (fun h => by omega)
theorem xm_corf (h : xm_cor M M1) (j : Int) (hj : ¬ ((20 ≤ j ∧ j ≤ 53) ∨ j = 68)) : M1 60 j = M 60 j := h 60 j (fun h => by omega)
/-- a kept build is one -/
def xm_bld (M : xa_M) (i : Int) : Prop := (0 ≤ M 104 (124 * i) ∧ M 104 (124 * i) ≤ 14) ∧ (∀ w, 0 ≤ w → w < 14 → (0 ≤ M 104 (124 * i + 1 + 5 * w) ∧ M 104 (124 * i + 1 + 5 * w) ≤ 400) ∧ (0 ≤ M 104 (124 * i + 2 + 5 * w) ∧ M 104 (124 * i + 2 + 5 * w) ≤ 400) ∧ (0 ≤ M 104 (124 * i + 3 + 5 * w) ∧ M 104 (124 * i + 3 + 5 * w) ≤ 400) ∧ (0 ≤ M 104 (124 * i + 4 + 5 * w) ∧ M 104 (124 * i + 4 + 5 * w) ≤ 9) ∧ (0 ≤ M 104 (124 * i + 5 + 5 * w) ∧ M 104 (124 * i + 5 + 5 * w) ≤ 9) ∧ (w < M 104 (124 * i) → 10 ≤ M 104 (124 * i + 1 + 5 * w) ∧ M 104 (124 * i + 1 + 5 * w) ≤ M 104 (124 * i + 2 + 5 * w) ∧ 10 ≤ M 104 (124 * i + 3 + 5 * w))) ∧
  (0 ≤ M 104 (124 * i + 71) ∧ M 104 (124 * i + 71) ≤ 16) ∧ (∀ m, 0 ≤ m → m < 16 → (0 ≤ M 104 (124 * i + 72 + 2 * m) ∧ M 104 (124 * i + 72 + 2 * m) ≤ 13) ∧ (0 ≤ M 104 (124 * i + 73 + 2 * m) ∧ M 104 (124 * i + 73 + 2 * m) ≤ 13) ∧ (m < M 104 (124 * i + 71) → M 104 (124 * i + 72 + 2 * m) < M 104 (124 * i) ∧ M 104 (124 * i + 73 + 2 * m) < M 104 (124 * i))) ∧
  ∀ a, 0 ≤ a → a < 10 → (-500 ≤ M 104 (124 * i + 104 + 2 * a) ∧ M 104 (124 * i + 104 + 2 * a) ≤ 500) ∧ (-500 ≤ M 104 (124 * i + 105 + 2 * a) ∧ M 104 (124 * i + 105 + 2 * a) ≤ 500)
/-- what holds between calls, besides the cells' bounds -/
def xm_Inv (M : xa_M) : Prop := (∀ w, 0 ≤ w → w < M 60 0 → 10 ≤ M 61 w ∧ M 61 w ≤ M 62 w ∧ 10 ≤ M 63 w) ∧ (∀ m, 0 ≤ m → m < M 60 6 → M 66 m < M 60 0 ∧ M 67 m < M 60 0) ∧ (∀ p, 0 ≤ p → p < M 60 11 → 1 ≤ M 70 p ∧ 1 ≤ M 71 p) ∧ M 60 15 ≤ M 60 16 ∧ ∀ i, 0 ≤ i → i < 4 → M 105 i = 1 → xm_bld M i
theorem xm_Inv_cor (h : xm_cor M M1) (hI : xm_Inv M) : xm_Inv M1 := by
  have e0 := xm_corf h 0 (by omega)
  have e6 := xm_corf h 6 (by omega)
  have e11 := xm_corf h 11 (by omega)
  have e15 := xm_corf h 15 (by omega)
  have e16 := xm_corf h 16 (by omega)
  have a := fun q hq j => xm_corq h q hq j
  obtain ⟨h1, h2, h3, h4, h5⟩ := hI
  refine ⟨fun w w0 w1 => ?_, fun m m0 m1 => ?_, fun p p0 p1 => ?_, ?_, fun i i0 i1 i2 => ?_⟩
  · rw [a 61 rfl, a 62 rfl, a 63 rfl]
    exact h1 w w0 (by omega)
  · rw [a 66 rfl, a 67 rfl, e0]
    exact h2 m m0 (by omega)
  · rw [a 70 rfl, a 71 rfl]
    exact h3 p p0 (by omega)
  · omega
  · rw [a 105 rfl] at i2
    have := h5 i i0 i1 i2
    unfold xm_bld at this ⊢
    simp only [a 104 rfl]
    exact this
end XM
theorem xa_C_asm {I : xa_I} {A : Nat → Nat} {h0 : g_H} {d j : Nat} {vs : List xa_V} {M : xa_M} {post : Option xa_V → xa_M → Prop} (k : xa_Mok I M → (∀ v ∈ vs, xa_vok v) → xa_C I A h0 d j vs M post) : xa_C I A h0 d j vs M post := by
  intro h xs hH hA post' hp
  have hvs : ∀ {vs : List xa_V} {xs : List Value}, xa_gS A vs xs → ∀ v ∈ vs, xa_vok v := by
    intro vs
    induction vs with
    | nil => intro xs _ v hv; cases hv
    | cons w ws ih =>
      intro xs hS v hv
      obtain ⟨x, ys, rfl, hg, hS'⟩ := xa_gS_cons hS
      rcases List.mem_cons.mp hv with rfl | hv
      · exact fun hk => xa_num hk hg
      · exact ih hS' v hv
  exact k (xa_H_Mok hH) (hvs hA) h xs hH hA post' hp
theorem xa_C_mok {I : xa_I} {A : Nat → Nat} {h0 : g_H} {d j : Nat} {vs : List xa_V} {M : xa_M} {post : Option xa_V → xa_M → Prop} (k : xa_C I A h0 d j vs M (fun o M' => xa_Mok I M' → post o M')) : xa_C I A h0 d j vs M post := fun h xs hH hA post' hp => k h xs hH hA post' (fun v M' x h' hv hx hH' => hp v M' x h' (hv (xa_H_Mok hH')) hx hH')
theorem xa_v1 {v : xa_V} {vs : List xa_V} (h : ∀ w ∈ v :: vs, xa_vok w) : xa_vok v := h _ List.mem_cons_self
theorem xa_v2 {v u : xa_V} {vs : List xa_V} (h : ∀ w ∈ u :: v :: vs, xa_vok w) : xa_vok v := h _ (List.mem_cons_of_mem _ List.mem_cons_self)
theorem ct_gcd1 {A : Nat → Nat} {h0 : g_H} {d : Nat} {M : xa_M} {post : Option xa_V → xa_M → Prop} {I : xa_I} {l1 u1 l2 u2 x y : Int} (hl1 : -9223372036854775808 < l1) (hl2 : -9223372036854775808 < l2) (hy1 : 1 ≤ y) (k : ∀ g : Int, g = (Int.gcd x y : Int) → 1 ≤ g → g ≤ y → post (some (1, 0, 1, 9223372036854775807, g)) M) : xa_C I A h0 (d + 2) 229 [(1, 0, l1, u1, x), (1, 0, l2, u2, y)] M post := by
  refine xa_C_asm (fun hM hv => ?_)
  have v1 : l1 ≤ x ∧ x ≤ u1 := xa_v1 hv (show (1 : Nat) < 2 by decide)
  have v2 : l2 ≤ y ∧ y ≤ u2 := xa_v2 hv (show (1 : Nat) < 2 by decide)
  refine xa_C_arg [(1, 0, -9223372036854775807, 9223372036854775807, x), (1, 0, -9223372036854775807, 9223372036854775807, y)] (xa_svL (fun _ _ _ _ => by omega) (xa_svL (fun _ _ _ _ => by omega) xa_sv0)) (xa_C_asm (fun _ hv => ?_))
  have v3 : -9223372036854775807 ≤ y ∧ y ≤ 9223372036854775807 := xa_v2 hv (show (1 : Nat) < 2 by decide)
  have hd : ((Int.gcd x y : Nat) : Int) ∣ y := Int.gcd_dvd_right ..
  have hle := Int.le_of_dvd (by omega) hd
  have hpos : 1 ≤ ((Int.gcd x y : Nat) : Int) := by
    rcases Nat.eq_zero_or_pos (Int.gcd x y) with h | h
    · obtain ⟨c, hc⟩ := hd
      rw [h] at hc
      simp at hc
      omega
    · omega
  exact ct_gcd (lo := 1) (hi := 9223372036854775807) (by omega) (by omega) rfl ⟨by omega, by omega⟩ (k _ rfl hpos hle)
theorem ct_absb {A : Nat → Nat} {h0 : g_H} {d : Nat} {M : xa_M} {post : Option xa_V → xa_M → Prop} {I : xa_I} {l u x : Int} (hi : Int) (hl : -9223372036854775808 < l) (h1 : -hi ≤ l) (h2 : u ≤ hi) (k : ∀ r : Int, r = (x.natAbs : Int) → post (some (1, 0, 0, hi, r)) M) : xa_C I A h0 (d + 1) 56 [(1, 0, l, u, x)] M post := by
  refine xa_C_asm (fun hM hv => ?_)
  have v1 : l ≤ x ∧ x ≤ u := xa_v1 hv (show (1 : Nat) < 2 by decide)
  exact ct_abs (by omega) (fun r e => ⟨by omega, k r e⟩)
