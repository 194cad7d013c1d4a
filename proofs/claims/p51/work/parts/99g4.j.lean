-- what is the same
set_option maxRecDepth 20000
def xk_B (q : Nat) (j : Int) : Bool := (Nat.beq q 60 && (decide (j = 0) || decide (j = 6) || decide (j = 18) || decide (j = 11) || decide (j = 15) || decide (j = 16) || decide (j = 61) || decide (j = 55) || decide (j = 56) || decide (j = 59))) || (Nat.beq q 61 || Nat.beq q 62 || Nat.beq q 63 || Nat.beq q 64 || Nat.beq q 65 || Nat.beq q 66 || Nat.beq q 67 || Nat.beq q 73 || Nat.beq q 70 || Nat.beq q 71 || Nat.beq q 72 || Nat.beq q 100 || Nat.beq q 101 || Nat.beq q 102 || Nat.beq q 103 || Nat.beq q 96 || Nat.beq q 97 || Nat.beq q 98 || Nat.beq q 99 || Nat.beq q 68 || Nat.beq q 69 || Nat.beq q 104 || Nat.beq q 105)
theorem xk_eq {q : Nat} {j : Int} (h : xk_B q j = true) : (q = 60 ∧ (j = 0 ∨ j = 6 ∨ j = 18 ∨ j = 11 ∨ j = 15 ∨ j = 16 ∨ j = 61 ∨ j = 55 ∨ j = 56 ∨ j = 59)) ∨ q = 61 ∨ q = 62 ∨ q = 63 ∨ q = 64 ∨ q = 65 ∨ q = 66 ∨ q = 67 ∨ q = 73 ∨ q = 70 ∨ q = 71 ∨ q = 72 ∨ q = 100 ∨ q = 101 ∨ q = 102 ∨ q = 103 ∨ q = 96 ∨ q = 97 ∨ q = 98 ∨ q = 99 ∨ q = 68 ∨ q = 69 ∨ q = 104 ∨ q = 105 := by
  unfold xk_B at h
  simp only [Bool.or_eq_true, Bool.and_eq_true, Nat.beq_eq, decide_eq_true_eq] at h
  omega
/-- places that a call of the reference leaves -/
def xk_U (M M1 : xa_M) : Prop := ∀ (q : Nat) (j : Int), xk_B q j = true → M1 q j = M q j
theorem xk_cor {M M1 : xa_M} (h : xm_cor M M1) : xk_U M M1 := fun q j hq => by
  have hq' := xk_eq hq
  exact h q j (by omega)
/-- as xm_is, of a region too -/
def xm_izB (q : Nat) (j : Int) : Bool := xm_icB q j || xk_B q j
def xm_iz (M M1 : xa_M) : Prop := ∀ q j, xm_izB q j = true → M1 q j = M q j
theorem xm_iz_r {M : xa_M} : xm_iz M M := fun _ _ _ => rfl
theorem xm_iz_u {M M1 : xa_M} {q : Nat} {j v : Int} (hq : xm_izB q j = false) (h : xm_iz M M1) : xm_iz M (xa_up M1 q j v) := by
  intro q2 j2 h2
  rw [xa_up_ne (fun e => by rw [e.1, e.2, hq] at h2; cases h2)]
  exact h q2 j2 h2
theorem xm_iz_is {M M1 : xa_M} (h : xm_iz M M1) : xm_is M M1 := fun q j hq => h q j (by unfold xm_izB; rw [hq]; rfl)
theorem xm_iz_k {M M1 : xa_M} (h : xm_iz M M1) : xk_U M M1 := fun q j hq => h q j (by unfold xm_izB; rw [hq, Bool.or_true])
def lm_C (q : Nat) (j : Int) : Prop := (q = 1 ∧ (j = 9 ∨ j = 10)) ∨ (q = 30 ∧ j = 1) ∨ (q = 50 ∧ j = 4) ∨ (q = 55 ∧ j = 4) ∨ (q = 32 ∧ (j = 0 ∨ j = 1)) ∨ (q = 43 ∧ j = 4) ∨ (q = 38 ∧ (j = 4 ∨ j = 5 ∨ j = 6)) ∨ ((q = 2 ∨ q = 3 ∨ q = 4 ∨ q = 5 ∨ q = 6) ∧ 0 ≤ j ∧ j < 14) ∨ ((q = 7 ∨ q = 8) ∧ 0 ≤ j ∧ j < 16) ∨ (q = 31 ∧ 0 ≤ j ∧ j < 80) ∨ ((q = 51 ∨ q = 52 ∨ q = 53 ∨ q = 56 ∨ q = 57 ∨ q = 58) ∧ 0 ≤ j ∧ j < 8) ∨ ((q = 44 ∨ q = 45 ∨ q = 46 ∨ q = 47) ∧ 0 ≤ j ∧ j < 12) ∨ (q = 39 ∧ 0 ≤ j ∧ j < 223) ∨ ((q = 40 ∨ q = 41) ∧ 0 ≤ j ∧ j < 20) ∨ (q = 42 ∧ 0 ≤ j ∧ j < 8) ∨ ((q = 9 ∨ q = 10) ∧ 0 ≤ j ∧ j < 10) ∨ (q = 60 ∧ (j = 0 ∨ j = 6 ∨ j = 18 ∨ j = 11 ∨ j = 15 ∨ j = 16 ∨ j = 61 ∨ j = 55 ∨ j = 56 ∨ j = 59)) ∨ ((q = 61 ∨ q = 62 ∨ q = 63 ∨ q = 64 ∨ q = 65) ∧ 0 ≤ j ∧ j < 14) ∨ ((q = 66 ∨ q = 67) ∧ 0 ≤ j ∧ j < 16) ∨ (q = 73 ∧ 0 ≤ j ∧ j < 80) ∨ ((q = 70 ∨ q = 71 ∨ q = 72) ∧ 0 ≤ j ∧ j < 8) ∨ ((q = 100 ∨ q = 101 ∨ q = 102 ∨ q = 103) ∧ 0 ≤ j ∧ j < 12) ∨ (q = 96 ∧ 0 ≤ j ∧ j < 223) ∨ ((q = 97 ∨ q = 98) ∧ 0 ≤ j ∧ j < 20) ∨ (q = 99 ∧ 0 ≤ j ∧ j < 8) ∨ ((q = 68 ∨ q = 69) ∧ 0 ≤ j ∧ j < 10)
def bk_p (b : Bool) : Nat := bif b then 55 else 50
/-- a name: the reference's, the class's -/
def bk_n (v : Int) : Int := if v = -1 then 0 else v
def lm_CS (q : Nat) (j : Int) : Prop := (q = 30 ∧ j = 1) ∨ (q = 50 ∧ j = 4) ∨ (q = 55 ∧ j = 4) ∨ (q = 32 ∧ (j = 0 ∨ j = 1)) ∨ (q = 43 ∧ j = 4) ∨ (q = 38 ∧ (j = 4 ∨ j = 5 ∨ j = 6)) ∨ (q = 31 ∧ 0 ≤ j ∧ j < 80) ∨ ((q = 51 ∨ q = 52 ∨ q = 53 ∨ q = 56 ∨ q = 57 ∨ q = 58) ∧ 0 ≤ j ∧ j < 8) ∨ ((q = 44 ∨ q = 45 ∨ q = 46 ∨ q = 47) ∧ 0 ≤ j ∧ j < 12) ∨ (q = 39 ∧ 0 ≤ j ∧ j < 223) ∨ ((q = 40 ∨ q = 41) ∧ 0 ≤ j ∧ j < 20) ∨ (q = 42 ∧ 0 ≤ j ∧ j < 8) ∨ ((q = 9 ∨ q = 10) ∧ 0 ≤ j ∧ j < 10) ∨ (q = 60 ∧ (j = 18 ∨ j = 11 ∨ j = 15 ∨ j = 16 ∨ j = 61 ∨ j = 55 ∨ j = 56 ∨ j = 59)) ∨ (q = 73 ∧ 0 ≤ j ∧ j < 80) ∨ ((q = 70 ∨ q = 71 ∨ q = 72) ∧ 0 ≤ j ∧ j < 8) ∨ ((q = 100 ∨ q = 101 ∨ q = 102 ∨ q = 103) ∧ 0 ≤ j ∧ j < 12) ∨ (q = 96 ∧ 0 ≤ j ∧ j < 223) ∨ ((q = 97 ∨ q = 98) ∧ 0 ≤ j ∧ j < 20) ∨ (q = 99 ∧ 0 ≤ j ∧ j < 8) ∨ ((q = 68 ∨ q = 69) ∧ 0 ≤ j ∧ j < 10)
def lm_CSb (q : Nat) (j : Int) : Prop := (q = 30 ∧ j = 1) ∨ (q = 50 ∧ j = 4) ∨ (q = 55 ∧ j = 4) ∨ (q = 31 ∧ 0 ≤ j ∧ j < 80) ∨ ((q = 51 ∨ q = 52 ∨ q = 53 ∨ q = 56 ∨ q = 57 ∨ q = 58) ∧ 0 ≤ j ∧ j < 8) ∨ (q = 60 ∧ (j = 18 ∨ j = 11)) ∨ (q = 73 ∧ 0 ≤ j ∧ j < 80) ∨ ((q = 70 ∨ q = 71 ∨ q = 72) ∧ 0 ≤ j ∧ j < 8)
def lm_XC (q : Nat) (j : Int) : Prop := (q = 32 ∧ (j = 0 ∨ j = 1)) ∨ (q = 43 ∧ j = 4) ∨ (q = 38 ∧ (j = 4 ∨ j = 5 ∨ j = 6)) ∨ ((q = 44 ∨ q = 45 ∨ q = 46 ∨ q = 47) ∧ 0 ≤ j ∧ j < 12) ∨ (q = 39 ∧ 0 ≤ j ∧ j < 223) ∨ ((q = 40 ∨ q = 41) ∧ 0 ≤ j ∧ j < 20) ∨ (q = 42 ∧ 0 ≤ j ∧ j < 8) ∨ ((q = 9 ∨ q = 10) ∧ 0 ≤ j ∧ j < 10) ∨ (q = 60 ∧ (j = 15 ∨ j = 16 ∨ j = 61 ∨ j = 55 ∨ j = 56 ∨ j = 59)) ∨ ((q = 100 ∨ q = 101 ∨ q = 102 ∨ q = 103) ∧ 0 ≤ j ∧ j < 12) ∨ (q = 96 ∧ 0 ≤ j ∧ j < 223) ∨ ((q = 97 ∨ q = 98) ∧ 0 ≤ j ∧ j < 20) ∨ (q = 99 ∧ 0 ≤ j ∧ j < 8) ∨ ((q = 68 ∨ q = 69) ∧ 0 ≤ j ∧ j < 10)
theorem lm_CSb_S {q : Nat} {j : Int} (h : lm_CSb q j) : lm_CS q j := by
  unfold lm_CSb at h
  rcases h with ⟨rfl, rfl⟩ | ⟨rfl, rfl⟩ | ⟨rfl, rfl⟩ | ⟨rfl, j0, j1⟩ | ⟨rfl | rfl | rfl | rfl | rfl | rfl, j0, j1⟩ | ⟨rfl, rfl | rfl⟩ | ⟨rfl, j0, j1⟩ | ⟨rfl | rfl | rfl, j0, j1⟩ <;> (unfold lm_CS; first | (simp; done) | (simp; omega) | omega)
theorem lm_XC_S {q : Nat} {j : Int} (h : lm_XC q j) : lm_CS q j := by
  unfold lm_XC at h
  rcases h with ⟨rfl, rfl | rfl⟩ | ⟨rfl, rfl⟩ | ⟨rfl, rfl | rfl | rfl⟩ | ⟨rfl | rfl | rfl | rfl, j0, j1⟩ | ⟨rfl, j0, j1⟩ | ⟨rfl | rfl, j0, j1⟩ | ⟨rfl, j0, j1⟩ | ⟨rfl | rfl, j0, j1⟩ | ⟨rfl, rfl | rfl | rfl | rfl | rfl | rfl⟩ | ⟨rfl | rfl | rfl | rfl, j0, j1⟩ | ⟨rfl, j0, j1⟩ | ⟨rfl | rfl, j0, j1⟩ | ⟨rfl, j0, j1⟩ | ⟨rfl | rfl, j0, j1⟩ <;> (unfold lm_CS; first | (simp; done) | (simp; omega) | omega)
/-- the text, the book -/
def lm_Sb (b : Bool) (M : xa_M) : Prop := M 30 1 = M 60 18 ∧ (∀ i, 0 ≤ i → i < 80 → M 31 i = M 73 i % 256) ∧ M (bk_p b) 4 = M 60 11 ∧ ∀ i, 0 ≤ i → i < 8 → i < M 60 11 → M (bk_p b + 1) i = M 70 i ∧ M (bk_p b + 2) i = M 71 i ∧ M (bk_p b + 3) i = bk_n (M 72 i)
theorem lm_Sb_k {b : Bool} {M M' : xa_M} (e : ∀ q j, lm_CSb q j → M' q j = M q j) (h : lm_Sb b M) : lm_Sb b M' := by
  obtain ⟨h1, h2, h3, h4⟩ := h
  cases b
  · refine ⟨by rw [e 30 1 (by unfold lm_CSb; first | (simp; done) | (simp; omega) | omega), e 60 18 (by unfold lm_CSb; first | (simp; done) | (simp; omega) | omega)]; exact h1, fun i i0 i1 => by rw [e 31 i (by unfold lm_CSb; first | (simp; done) | (simp; omega) | omega), e 73 i (by unfold lm_CSb; first | (simp; done) | (simp; omega) | omega)]; exact h2 i i0 i1, ?_, fun i i0 i1 i2 => ?_⟩
    · show M' 50 4 = M' 60 11
      rw [e 50 4 (by unfold lm_CSb; first | (simp; done) | (simp; omega) | omega), e 60 11 (by unfold lm_CSb; first | (simp; done) | (simp; omega) | omega)]
      exact h3
    · rw [e 60 11 (by unfold lm_CSb; first | (simp; done) | (simp; omega) | omega)] at i2
      have g := h4 i i0 i1 i2
      show M' 51 i = M' 70 i ∧ M' 52 i = M' 71 i ∧ M' 53 i = bk_n (M' 72 i)
      rw [e 51 i (by unfold lm_CSb; first | (simp; done) | (simp; omega) | omega), e 52 i (by unfold lm_CSb; first | (simp; done) | (simp; omega) | omega), e 53 i (by unfold lm_CSb; first | (simp; done) | (simp; omega) | omega), e 70 i (by unfold lm_CSb; first | (simp; done) | (simp; omega) | omega), e 71 i (by unfold lm_CSb; first | (simp; done) | (simp; omega) | omega), e 72 i (by unfold lm_CSb; first | (simp; done) | (simp; omega) | omega)]
      exact g
  · refine ⟨by rw [e 30 1 (by unfold lm_CSb; first | (simp; done) | (simp; omega) | omega), e 60 18 (by unfold lm_CSb; first | (simp; done) | (simp; omega) | omega)]; exact h1, fun i i0 i1 => by rw [e 31 i (by unfold lm_CSb; first | (simp; done) | (simp; omega) | omega), e 73 i (by unfold lm_CSb; first | (simp; done) | (simp; omega) | omega)]; exact h2 i i0 i1, ?_, fun i i0 i1 i2 => ?_⟩
    · show M' 55 4 = M' 60 11
      rw [e 55 4 (by unfold lm_CSb; first | (simp; done) | (simp; omega) | omega), e 60 11 (by unfold lm_CSb; first | (simp; done) | (simp; omega) | omega)]
      exact h3
    · rw [e 60 11 (by unfold lm_CSb; first | (simp; done) | (simp; omega) | omega)] at i2
      have g := h4 i i0 i1 i2
      show M' 56 i = M' 70 i ∧ M' 57 i = M' 71 i ∧ M' 58 i = bk_n (M' 72 i)
      rw [e 56 i (by unfold lm_CSb; first | (simp; done) | (simp; omega) | omega), e 57 i (by unfold lm_CSb; first | (simp; done) | (simp; omega) | omega), e 58 i (by unfold lm_CSb; first | (simp; done) | (simp; omega) | omega), e 70 i (by unfold lm_CSb; first | (simp; done) | (simp; omega) | omega), e 71 i (by unfold lm_CSb; first | (simp; done) | (simp; omega) | omega), e 72 i (by unfold lm_CSb; first | (simp; done) | (simp; omega) | omega)]
      exact g
theorem lm_Sb0 {M : xa_M} (h1 : M 30 1 = M 60 18) (h2 : ∀ i, 0 ≤ i → i < 80 → M 31 i = M 73 i % 256) (h3 : M 50 4 = 0) (h4 : M 60 11 = 0) : lm_Sb false M := ⟨h1, h2, h3.trans h4.symm, fun i i0 _ i2 => by rw [h4] at i2; omega⟩
/-- what is told beside the book -/
def lm_X (M : xa_M) : Prop := M 32 0 = M 60 15 ∧ M 32 1 = M 60 16 ∧ M 43 4 = M 60 61 ∧ M 38 4 = M 60 55 ∧ M 38 5 = M 60 56 ∧ M 38 6 = M 60 59 ∧ (∀ i, 0 ≤ i → i < 12 → M 44 i = M 100 i) ∧ (∀ i, 0 ≤ i → i < 12 → M 45 i = M 101 i) ∧ (∀ i, 0 ≤ i → i < 12 → M 46 i = M 102 i) ∧ (∀ i, 0 ≤ i → i < 12 → M 47 i = M 103 i) ∧ (∀ i, 0 ≤ i → i < 223 → M 39 i = M 96 i) ∧ (∀ i, 0 ≤ i → i < 20 → M 40 i = M 97 i) ∧ (∀ i, 0 ≤ i → i < 20 → M 41 i = M 98 i) ∧ (∀ i, 0 ≤ i → i < 8 → M 42 i = M 99 i) ∧ (∀ i, 0 ≤ i → i < 10 → M 9 i = M 68 i) ∧ (∀ i, 0 ≤ i → i < 10 → M 10 i = M 69 i)
theorem lm_X_k {M M' : xa_M} (e : ∀ q j, lm_XC q j → M' q j = M q j) (h : lm_X M) : lm_X M' := by
  obtain ⟨h1, h2, h3, h4, h5, h6, h7, h8, h9, h10, h11, h12, h13, h14, h15, h16⟩ := h
  exact ⟨by rw [e 32 0 (by unfold lm_XC; first | (simp; done) | (simp; omega) | omega), e 60 15 (by unfold lm_XC; first | (simp; done) | (simp; omega) | omega)]; exact h1, by rw [e 32 1 (by unfold lm_XC; first | (simp; done) | (simp; omega) | omega), e 60 16 (by unfold lm_XC; first | (simp; done) | (simp; omega) | omega)]; exact h2, by rw [e 43 4 (by unfold lm_XC; first | (simp; done) | (simp; omega) | omega), e 60 61 (by unfold lm_XC; first | (simp; done) | (simp; omega) | omega)]; exact h3, by rw [e 38 4 (by unfold lm_XC; first | (simp; done) | (simp; omega) | omega), e 60 55 (by unfold lm_XC; first | (simp; done) | (simp; omega) | omega)]; exact h4, by rw [e 38 5 (by unfold lm_XC; first | (simp; done) | (simp; omega) | omega), e 60 56 (by unfold lm_XC; first | (simp; done) | (simp; omega) | omega)]; exact h5, by rw [e 38 6 (by unfold lm_XC; first | (simp; done) | (simp; omega) | omega), e 60 59 (by unfold lm_XC; first | (simp; done) | (simp; omega) | omega)]; exact h6, fun i i0 i1 => by rw [e 44 i (by unfold lm_XC; first | (simp; done) | (simp; omega) | omega), e 100 i (by unfold lm_XC; first | (simp; done) | (simp; omega) | omega)]; exact h7 i i0 i1, fun i i0 i1 => by rw [e 45 i (by unfold lm_XC; first | (simp; done) | (simp; omega) | omega), e 101 i (by unfold lm_XC; first | (simp; done) | (simp; omega) | omega)]; exact h8 i i0 i1, fun i i0 i1 => by rw [e 46 i (by unfold lm_XC; first | (simp; done) | (simp; omega) | omega), e 102 i (by unfold lm_XC; first | (simp; done) | (simp; omega) | omega)]; exact h9 i i0 i1, fun i i0 i1 => by rw [e 47 i (by unfold lm_XC; first | (simp; done) | (simp; omega) | omega), e 103 i (by unfold lm_XC; first | (simp; done) | (simp; omega) | omega)]; exact h10 i i0 i1, fun i i0 i1 => by rw [e 39 i (by unfold lm_XC; first | (simp; done) | (simp; omega) | omega), e 96 i (by unfold lm_XC; first | (simp; done) | (simp; omega) | omega)]; exact h11 i i0 i1, fun i i0 i1 => by rw [e 40 i (by unfold lm_XC; first | (simp; done) | (simp; omega) | omega), e 97 i (by unfold lm_XC; first | (simp; done) | (simp; omega) | omega)]; exact h12 i i0 i1, fun i i0 i1 => by rw [e 41 i (by unfold lm_XC; first | (simp; done) | (simp; omega) | omega), e 98 i (by unfold lm_XC; first | (simp; done) | (simp; omega) | omega)]; exact h13 i i0 i1, fun i i0 i1 => by rw [e 42 i (by unfold lm_XC; first | (simp; done) | (simp; omega) | omega), e 99 i (by unfold lm_XC; first | (simp; done) | (simp; omega) | omega)]; exact h14 i i0 i1, fun i i0 i1 => by rw [e 9 i (by unfold lm_XC; first | (simp; done) | (simp; omega) | omega), e 68 i (by unfold lm_XC; first | (simp; done) | (simp; omega) | omega)]; exact h15 i i0 i1, fun i i0 i1 => by rw [e 10 i (by unfold lm_XC; first | (simp; done) | (simp; omega) | omega), e 69 i (by unfold lm_XC; first | (simp; done) | (simp; omega) | omega)]; exact h16 i i0 i1⟩
def lm_S (b : Bool) (M : xa_M) : Prop := lm_Sb b M ∧ lm_X M
theorem lm_S_k {b : Bool} {M M' : xa_M} (e : ∀ q j, lm_CS q j → M' q j = M q j) (h : lm_S b M) : lm_S b M' := ⟨lm_Sb_k (fun q j hc => e q j (lm_CSb_S hc)) h.1, lm_X_k (fun q j hc => e q j (lm_XC_S hc)) h.2⟩
theorem lm_CS_C {q : Nat} {j : Int} (h : lm_CS q j) : lm_C q j := by
  unfold lm_CS at h
  rcases h with ⟨rfl, rfl⟩ | ⟨rfl, rfl⟩ | ⟨rfl, rfl⟩ | ⟨rfl, rfl | rfl⟩ | ⟨rfl, rfl⟩ | ⟨rfl, rfl | rfl | rfl⟩ | ⟨rfl, j0, j1⟩ | ⟨rfl | rfl | rfl | rfl | rfl | rfl, j0, j1⟩ | ⟨rfl | rfl | rfl | rfl, j0, j1⟩ | ⟨rfl, j0, j1⟩ | ⟨rfl | rfl, j0, j1⟩ | ⟨rfl, j0, j1⟩ | ⟨rfl | rfl, j0, j1⟩ | ⟨rfl, rfl | rfl | rfl | rfl | rfl | rfl | rfl | rfl⟩ | ⟨rfl, j0, j1⟩ | ⟨rfl | rfl | rfl, j0, j1⟩ | ⟨rfl | rfl | rfl | rfl, j0, j1⟩ | ⟨rfl, j0, j1⟩ | ⟨rfl | rfl, j0, j1⟩ | ⟨rfl, j0, j1⟩ | ⟨rfl | rfl, j0, j1⟩ <;> (unfold lm_C; first | (simp; done) | (simp; omega) | omega)
theorem lm_Cq {q : Nat} {j : Int} (h : lm_C q j) : ((1 ≤ q ∧ q ≤ 10) ∨ (30 ≤ q ∧ q ≤ 32) ∨ (38 ≤ q ∧ q ≤ 47) ∨ (50 ≤ q ∧ q ≤ 53) ∨ (55 ≤ q ∧ q ≤ 58) ∨ (60 ≤ q ∧ q ≤ 73) ∨ (96 ≤ q ∧ q ≤ 103)) ∧ (q = 60 → j = 0 ∨ j = 6 ∨ j = 18 ∨ j = 11 ∨ j = 15 ∨ j = 16 ∨ j = 61 ∨ j = 55 ∨ j = 56 ∨ j = 59) ∧ (q = 30 → j = 1) ∧ (q = 1 → j = 9 ∨ j = 10) ∧ (q = 50 → j = 4) ∧ (q = 55 → j = 4) := by
  unfold lm_C at h
  rcases h with ⟨rfl, rfl | rfl⟩ | ⟨rfl, rfl⟩ | ⟨rfl, rfl⟩ | ⟨rfl, rfl⟩ | ⟨rfl, rfl | rfl⟩ | ⟨rfl, rfl⟩ | ⟨rfl, rfl | rfl | rfl⟩ | ⟨rfl | rfl | rfl | rfl | rfl, j0, j1⟩ | ⟨rfl | rfl, j0, j1⟩ | ⟨rfl, j0, j1⟩ | ⟨rfl | rfl | rfl | rfl | rfl | rfl, j0, j1⟩ | ⟨rfl | rfl | rfl | rfl, j0, j1⟩ | ⟨rfl, j0, j1⟩ | ⟨rfl | rfl, j0, j1⟩ | ⟨rfl, j0, j1⟩ | ⟨rfl | rfl, j0, j1⟩ | ⟨rfl, rfl | rfl | rfl | rfl | rfl | rfl | rfl | rfl | rfl | rfl⟩ | ⟨rfl | rfl | rfl | rfl | rfl, j0, j1⟩ | ⟨rfl | rfl, j0, j1⟩ | ⟨rfl, j0, j1⟩ | ⟨rfl | rfl | rfl, j0, j1⟩ | ⟨rfl | rfl | rfl | rfl, j0, j1⟩ | ⟨rfl, j0, j1⟩ | ⟨rfl | rfl, j0, j1⟩ | ⟨rfl, j0, j1⟩ | ⟨rfl | rfl, j0, j1⟩ <;> simp
def lm_R0 (M : xa_M) : Prop := M 1 9 = M 60 0 ∧ M 1 10 = M 60 6 ∧ (∀ i, 0 ≤ i → i < 14 → M 2 i = M 61 i ∧ M 3 i = M 62 i ∧ M 5 i = M 64 i ∧ M 6 i = M 65 i ∧ M 4 i = M 63 i) ∧ ∀ i, 0 ≤ i → i < 16 → M 7 i = M 66 i ∧ M 8 i = M 67 i
def lm_R (b : Bool) (M : xa_M) : Prop := lm_R0 M ∧ lm_S b M
theorem lm_R_k {b : Bool} {M M' : xa_M} (e : ∀ q j, lm_C q j → M' q j = M q j) (h : lm_R b M) : lm_R b M' := by
  obtain ⟨⟨h1, h2, h3, h4⟩, hS⟩ := h
  have e1 := e 1 9 (by unfold lm_C; first | (simp; done) | (simp; omega) | omega)
  have e2 := e 1 10 (by unfold lm_C; first | (simp; done) | (simp; omega) | omega)
  have e3 := e 60 0 (by unfold lm_C; first | (simp; done) | (simp; omega) | omega)
  have e4 := e 60 6 (by unfold lm_C; first | (simp; done) | (simp; omega) | omega)
  refine ⟨⟨by rw [e1, e3]; exact h1, by rw [e2, e4]; exact h2, fun i i0 i1 => ?_, fun i i0 i1 => ?_⟩, lm_S_k (fun q j hC => e q j (lm_CS_C hC)) hS⟩
  · have g := h3 i i0 i1
    rw [e 2 i (by unfold lm_C; first | (simp; done) | (simp; omega) | omega), e 3 i (by unfold lm_C; first | (simp; done) | (simp; omega) | omega), e 5 i (by unfold lm_C; first | (simp; done) | (simp; omega) | omega), e 6 i (by unfold lm_C; first | (simp; done) | (simp; omega) | omega), e 61 i (by unfold lm_C; first | (simp; done) | (simp; omega) | omega), e 62 i (by unfold lm_C; first | (simp; done) | (simp; omega) | omega), e 64 i (by unfold lm_C; first | (simp; done) | (simp; omega) | omega), e 65 i (by unfold lm_C; first | (simp; done) | (simp; omega) | omega), e 4 i (by unfold lm_C; first | (simp; done) | (simp; omega) | omega), e 63 i (by unfold lm_C; first | (simp; done) | (simp; omega) | omega)]
    exact g
  · have g := h4 i i0 i1
    rw [e 7 i (by unfold lm_C; first | (simp; done) | (simp; omega) | omega), e 8 i (by unfold lm_C; first | (simp; done) | (simp; omega) | omega), e 66 i (by unfold lm_C; first | (simp; done) | (simp; omega) | omega), e 67 i (by unfold lm_C; first | (simp; done) | (simp; omega) | omega)]
    exact g
/-- the numbers of the core: those of the class, those of the reference -/
theorem lm_CX {q : Nat} {j : Int} (h : lm_C q j) : (q < 60 ∧ ∀ b, ∃ ro S, xl_I b q = some (ro, S) ∧ 0 ≤ j ∧ j < (ro.2.2.1 : Int) ∧ (xa_sp ro j.toNat).1 < 2) ∨ (¬ q < 60 ∧ ∃ ro S, xm_I q = some (ro, S) ∧ 0 ≤ j ∧ j < (ro.2.2.1 : Int) ∧ (xa_sp ro j.toNat).1 < 2) := by
  unfold lm_C at h
  rcases h with ⟨rfl, rfl | rfl⟩ | ⟨rfl, rfl⟩ | ⟨rfl, rfl⟩ | ⟨rfl, rfl⟩ | ⟨rfl, rfl | rfl⟩ | ⟨rfl, rfl⟩ | ⟨rfl, rfl | rfl | rfl⟩ | ⟨rfl | rfl | rfl | rfl | rfl, j0, j1⟩ | ⟨rfl | rfl, j0, j1⟩ | ⟨rfl, j0, j1⟩ | ⟨rfl | rfl | rfl | rfl | rfl | rfl, j0, j1⟩ | ⟨rfl | rfl | rfl | rfl, j0, j1⟩ | ⟨rfl, j0, j1⟩ | ⟨rfl | rfl, j0, j1⟩ | ⟨rfl, j0, j1⟩ | ⟨rfl | rfl, j0, j1⟩ | ⟨rfl, rfl | rfl | rfl | rfl | rfl | rfl | rfl | rfl | rfl | rfl⟩ | ⟨rfl | rfl | rfl | rfl | rfl, j0, j1⟩ | ⟨rfl | rfl, j0, j1⟩ | ⟨rfl, j0, j1⟩ | ⟨rfl | rfl | rfl, j0, j1⟩ | ⟨rfl | rfl | rfl | rfl, j0, j1⟩ | ⟨rfl, j0, j1⟩ | ⟨rfl | rfl, j0, j1⟩ | ⟨rfl, j0, j1⟩ | ⟨rfl | rfl, j0, j1⟩
  · exact Or.inl ⟨by decide, fun b => ⟨_, _, rfl, by decide, by decide, by decide⟩⟩
  · exact Or.inl ⟨by decide, fun b => ⟨_, _, rfl, by decide, by decide, by decide⟩⟩
  · exact Or.inl ⟨by decide, fun b => ⟨_, _, rfl, by decide, by decide, by decide⟩⟩
  · exact Or.inl ⟨by decide, fun b => ⟨_, _, rfl, by decide, by decide, by decide⟩⟩
  · exact Or.inl ⟨by decide, fun b => ⟨_, _, rfl, by decide, by decide, by decide⟩⟩
  · exact Or.inl ⟨by decide, fun b => ⟨_, _, rfl, by decide, by decide, by decide⟩⟩
  · exact Or.inl ⟨by decide, fun b => ⟨_, _, rfl, by decide, by decide, by decide⟩⟩
  · exact Or.inl ⟨by decide, fun b => ⟨_, _, rfl, by decide, by decide, by decide⟩⟩
  · exact Or.inl ⟨by decide, fun b => ⟨_, _, rfl, by decide, by decide, by decide⟩⟩
  · exact Or.inl ⟨by decide, fun b => ⟨_, _, rfl, by decide, by decide, by decide⟩⟩
  · exact Or.inl ⟨by decide, fun b => ⟨_, _, rfl, by decide, by decide, by decide⟩⟩
  · exact Or.inl ⟨by decide, fun b => ⟨_, _, rfl, j0, j1, by show (0 : Nat) < 2; decide⟩⟩
  · exact Or.inl ⟨by decide, fun b => ⟨_, _, rfl, j0, j1, by show (0 : Nat) < 2; decide⟩⟩
  · exact Or.inl ⟨by decide, fun b => ⟨_, _, rfl, j0, j1, by show (0 : Nat) < 2; decide⟩⟩
  · exact Or.inl ⟨by decide, fun b => ⟨_, _, rfl, j0, j1, by show (0 : Nat) < 2; decide⟩⟩
  · exact Or.inl ⟨by decide, fun b => ⟨_, _, rfl, j0, j1, by show (0 : Nat) < 2; decide⟩⟩
  · exact Or.inl ⟨by decide, fun b => ⟨_, _, rfl, j0, j1, by show (0 : Nat) < 2; decide⟩⟩
  · exact Or.inl ⟨by decide, fun b => ⟨_, _, rfl, j0, j1, by show (0 : Nat) < 2; decide⟩⟩
  · exact Or.inl ⟨by decide, fun b => ⟨_, _, rfl, j0, j1, by show (0 : Nat) < 2; decide⟩⟩
  · exact Or.inl ⟨by decide, fun b => ⟨_, _, rfl, j0, j1, by show (0 : Nat) < 2; decide⟩⟩
  · exact Or.inl ⟨by decide, fun b => ⟨_, _, rfl, j0, j1, by show (0 : Nat) < 2; decide⟩⟩
  · exact Or.inl ⟨by decide, fun b => ⟨_, _, rfl, j0, j1, by show (0 : Nat) < 2; decide⟩⟩
  · exact Or.inl ⟨by decide, fun b => ⟨_, _, rfl, j0, j1, by show (0 : Nat) < 2; decide⟩⟩
  · exact Or.inl ⟨by decide, fun b => ⟨_, _, rfl, j0, j1, by show (0 : Nat) < 2; decide⟩⟩
  · exact Or.inl ⟨by decide, fun b => ⟨_, _, rfl, j0, j1, by show (0 : Nat) < 2; decide⟩⟩
  · exact Or.inl ⟨by decide, fun b => ⟨_, _, rfl, j0, j1, by show (0 : Nat) < 2; decide⟩⟩
  · exact Or.inl ⟨by decide, fun b => ⟨_, _, rfl, j0, j1, by show (0 : Nat) < 2; decide⟩⟩
  · exact Or.inl ⟨by decide, fun b => ⟨_, _, rfl, j0, j1, by show (0 : Nat) < 2; decide⟩⟩
  · exact Or.inl ⟨by decide, fun b => ⟨_, _, rfl, j0, j1, by show (0 : Nat) < 2; decide⟩⟩
  · exact Or.inl ⟨by decide, fun b => ⟨_, _, rfl, j0, j1, by show (0 : Nat) < 2; decide⟩⟩
  · exact Or.inl ⟨by decide, fun b => ⟨_, _, rfl, j0, j1, by show (0 : Nat) < 2; decide⟩⟩
  · exact Or.inl ⟨by decide, fun b => ⟨_, _, rfl, j0, j1, by show (0 : Nat) < 2; decide⟩⟩
  · exact Or.inl ⟨by decide, fun b => ⟨_, _, rfl, j0, j1, by show (0 : Nat) < 2; decide⟩⟩
  · exact Or.inl ⟨by decide, fun b => ⟨_, _, rfl, j0, j1, by show (0 : Nat) < 2; decide⟩⟩
  · exact Or.inl ⟨by decide, fun b => ⟨_, _, rfl, j0, j1, by show (0 : Nat) < 2; decide⟩⟩
  · exact Or.inr ⟨by decide, _, _, rfl, by decide, by decide, by decide⟩
  · exact Or.inr ⟨by decide, _, _, rfl, by decide, by decide, by decide⟩
  · exact Or.inr ⟨by decide, _, _, rfl, by decide, by decide, by decide⟩
  · exact Or.inr ⟨by decide, _, _, rfl, by decide, by decide, by decide⟩
  · exact Or.inr ⟨by decide, _, _, rfl, by decide, by decide, by decide⟩
  · exact Or.inr ⟨by decide, _, _, rfl, by decide, by decide, by decide⟩
  · exact Or.inr ⟨by decide, _, _, rfl, by decide, by decide, by decide⟩
  · exact Or.inr ⟨by decide, _, _, rfl, by decide, by decide, by decide⟩
  · exact Or.inr ⟨by decide, _, _, rfl, by decide, by decide, by decide⟩
  · exact Or.inr ⟨by decide, _, _, rfl, by decide, by decide, by decide⟩
  · exact Or.inr ⟨by decide, _, _, rfl, j0, j1, by show (0 : Nat) < 2; decide⟩
  · exact Or.inr ⟨by decide, _, _, rfl, j0, j1, by show (0 : Nat) < 2; decide⟩
  · exact Or.inr ⟨by decide, _, _, rfl, j0, j1, by show (0 : Nat) < 2; decide⟩
  · exact Or.inr ⟨by decide, _, _, rfl, j0, j1, by show (0 : Nat) < 2; decide⟩
  · exact Or.inr ⟨by decide, _, _, rfl, j0, j1, by show (0 : Nat) < 2; decide⟩
  · exact Or.inr ⟨by decide, _, _, rfl, j0, j1, by show (0 : Nat) < 2; decide⟩
  · exact Or.inr ⟨by decide, _, _, rfl, j0, j1, by show (0 : Nat) < 2; decide⟩
  · exact Or.inr ⟨by decide, _, _, rfl, j0, j1, by show (0 : Nat) < 2; decide⟩
  · exact Or.inr ⟨by decide, _, _, rfl, j0, j1, by show (0 : Nat) < 2; decide⟩
  · exact Or.inr ⟨by decide, _, _, rfl, j0, j1, by show (0 : Nat) < 2; decide⟩
  · exact Or.inr ⟨by decide, _, _, rfl, j0, j1, by show (0 : Nat) < 2; decide⟩
  · exact Or.inr ⟨by decide, _, _, rfl, j0, j1, by show (0 : Nat) < 2; decide⟩
  · exact Or.inr ⟨by decide, _, _, rfl, j0, j1, by show (0 : Nat) < 2; decide⟩
  · exact Or.inr ⟨by decide, _, _, rfl, j0, j1, by show (0 : Nat) < 2; decide⟩
  · exact Or.inr ⟨by decide, _, _, rfl, j0, j1, by show (0 : Nat) < 2; decide⟩
  · exact Or.inr ⟨by decide, _, _, rfl, j0, j1, by show (0 : Nat) < 2; decide⟩
  · exact Or.inr ⟨by decide, _, _, rfl, j0, j1, by show (0 : Nat) < 2; decide⟩
  · exact Or.inr ⟨by decide, _, _, rfl, j0, j1, by show (0 : Nat) < 2; decide⟩
  · exact Or.inr ⟨by decide, _, _, rfl, j0, j1, by show (0 : Nat) < 2; decide⟩
  · exact Or.inr ⟨by decide, _, _, rfl, j0, j1, by show (0 : Nat) < 2; decide⟩
  · exact Or.inr ⟨by decide, _, _, rfl, j0, j1, by show (0 : Nat) < 2; decide⟩
def iv_JW (A : Nat → Nat) (W : y_W) (b : Bool) (h : g_H) : Prop := iv_iW A W h ∧ iv_F b A h ∧ lm_R b (iv_num h) ∧ iv_kept W h
def iv_J (A : Nat → Nat) (h : g_H) : Prop := ∃ (W : y_W) (b : Bool), iv_JW A W b h
theorem iv_J_inv {A : Nat → Nat} {h : g_H} (hJ : iv_J A h) : iv_inv A h := by
  obtain ⟨W, b, hJ⟩ := hJ
  exact iv_iW_inv hJ.1
/-- numbers of the reference, where its memory is known -/
theorem iv_num_m {A : Nat → Nat} {M : xa_M} {h0 h : g_H} (hM : xa_H xm_I A M h0 h) {q : Nat} {j : Int} (hC : lm_C q j) (hq : ¬ q < 60) : iv_num h q j = M q j := by
  rcases lm_CX hC with ⟨h1, -⟩ | ⟨-, ro, S, e1, e2, e3, e4⟩
  · exact absurd h1 hq
  · exact iv_num_M hM e1 e2 e3 e4
theorem iv_num_x {b : Bool} {A : Nat → Nat} {M : xa_M} {h0 h : g_H} (hM : xa_H (xl_I b) A M h0 h) {q : Nat} {j : Int} (hC : lm_C q j) (hq : q < 60) : iv_num h q j = M q j := by
  rcases lm_CX hC with ⟨-, h1⟩ | ⟨h1, -⟩
  · obtain ⟨ro, S, e1, e2, e3, e4⟩ := h1 b
    exact iv_num_M hM e1 e2 e3 e4
  · exact absurd hq h1
theorem iv_104 {A : Nat → Nat} {M : xa_M} {h0 h : g_H} (hM : xa_H xm_I A M h0 h) {x : Int} (x0 : 0 ≤ x) (x1 : x < 496) : iv_num h 104 x = M 104 x := iv_num_M hM rfl x0 x1 (by show (0 : Nat) < 2; decide)
theorem iv_105 {A : Nat → Nat} {M : xa_M} {h0 h : g_H} (hM : xa_H xm_I A M h0 h) {x : Int} (x0 : 0 ≤ x) (x1 : x < 4) : iv_num h 105 x = M 105 x := iv_num_M hM rfl x0 x1 (by show (0 : Nat) < 2; decide)
/-- a cell of the class, told by its world -/
theorem iv_cell {A : Nat → Nat} {W : y_W} {h : g_H} (hI : iv_iW A W h) {q r : Nat} {ro : y_R1} (hr : iv_rl[q]? = some r) (hro : y_Rc.1[r]? = some ro) : ∃ f, h[q]? = some (A q, ro.1, ro.2.1, ro.2.2.1, f) := by
  obtain ⟨⟨β, hH⟩, hW, -⟩ := hI
  obtain ⟨ro', f, g1, g2, -⟩ := hH.2.1 q (A q) r (hW q r hr)
  rw [hro] at g1
  cases g1
  exact ⟨f, g2⟩
/-- a call of the class that writes nothing that is told -/
theorem iv_J_c {A : Nat → Nat} {W : y_W} {b : Bool} {h h' : g_H} (hJ : iv_JW A W b h) (hx : iv_xW A W h h') (hF : f_Fr iv_E iv_K h h') : ∃ W', W <+: W' ∧ iv_JW A W' b h' := by
  obtain ⟨hI, hr, hR, hK⟩ := hJ
  obtain ⟨W', hWW, hI', hro, km⟩ := hx
  obtain ⟨M, hM, -⟩ := hI.2.2
  have hM' := km M hM
  refine ⟨W', hWW, hI', iv_F_fr hI hF hr, lm_R_k (fun q j hC => ?_) hR, iv_kept_k hWW ?_ ?_ ?_ ?_ ?_ hK⟩
  · by_cases hq : q < 60
    · have hC' := hC
      unfold lm_C at hC
      have arr : ∀ {r n k : Nat} {v : y_V}, iv_rl[q]? = some r → y_Rr.1[r]? = some (true, k, n, 0, [v, v, v]) → 0 ≤ j → j < (n : Int) → iv_num h' q j = iv_num h q j := by
        intro r n k v e1 e2 j0 j1
        obtain ⟨f, g1, g2⟩ := hro q (A q) r _ (hI.2.1 q r e1) e2 rfl
        refine iv_num_c ?_
        rw [iv_ctZ g1]
        exact g2 j.toNat (by show j.toNat < n; omega)
      rcases hC with ⟨rfl, rfl | rfl⟩ | ⟨rfl, rfl⟩ | ⟨rfl, rfl⟩ | ⟨rfl, rfl⟩ | ⟨rfl, rfl | rfl⟩ | ⟨rfl, rfl⟩ | ⟨rfl, rfl | rfl | rfl⟩ | ⟨rfl | rfl | rfl | rfl | rfl, j0, j1⟩ | ⟨rfl | rfl, j0, j1⟩ | ⟨rfl, j0, j1⟩ | ⟨rfl | rfl | rfl | rfl | rfl | rfl, j0, j1⟩ | ⟨rfl | rfl | rfl | rfl, j0, j1⟩ | ⟨rfl, j0, j1⟩ | ⟨rfl | rfl, j0, j1⟩ | ⟨rfl, j0, j1⟩ | ⟨rfl | rfl, j0, j1⟩ | ⟨rfl, rfl | rfl | rfl | rfl | rfl | rfl | rfl | rfl | rfl | rfl⟩ | ⟨rfl | rfl | rfl | rfl | rfl, j0, j1⟩ | ⟨rfl | rfl, j0, j1⟩ | ⟨rfl, j0, j1⟩ | ⟨rfl | rfl | rfl, j0, j1⟩ | ⟨rfl | rfl | rfl | rfl, j0, j1⟩ | ⟨rfl, j0, j1⟩ | ⟨rfl | rfl, j0, j1⟩ | ⟨rfl, j0, j1⟩ | ⟨rfl | rfl, j0, j1⟩
      · obtain ⟨f, e⟩ := iv_cell hI (q := 1) rfl rfl
        exact iv_num_F hF e (k := 9) rfl
      · obtain ⟨f, e⟩ := iv_cell hI (q := 1) rfl rfl
        exact iv_num_F hF e (k := 10) rfl
      · obtain ⟨f, e⟩ := iv_cell hI (q := 30) rfl rfl
        exact iv_num_F hF e (k := 1) rfl
      · obtain ⟨f, e⟩ := iv_cell hI (q := 50) rfl rfl
        exact iv_num_F hF e (k := 4) rfl
      · obtain ⟨f, e⟩ := iv_cell hI (q := 55) rfl rfl
        exact iv_num_F hF e (k := 4) rfl
      · obtain ⟨f, e⟩ := iv_cell hI (q := 32) rfl rfl
        exact iv_num_F hF e (k := 0) rfl
      · obtain ⟨f, e⟩ := iv_cell hI (q := 32) rfl rfl
        exact iv_num_F hF e (k := 1) rfl
      · obtain ⟨f, e⟩ := iv_cell hI (q := 43) rfl rfl
        exact iv_num_F hF e (k := 4) rfl
      · obtain ⟨f, e⟩ := iv_cell hI (q := 38) rfl rfl
        exact iv_num_F hF e (k := 4) rfl
      · obtain ⟨f, e⟩ := iv_cell hI (q := 38) rfl rfl
        exact iv_num_F hF e (k := 5) rfl
      · obtain ⟨f, e⟩ := iv_cell hI (q := 38) rfl rfl
        exact iv_num_F hF e (k := 6) rfl
      · exact arr rfl rfl j0 j1
      · exact arr rfl rfl j0 j1
      · exact arr rfl rfl j0 j1
      · exact arr rfl rfl j0 j1
      · exact arr rfl rfl j0 j1
      · exact arr rfl rfl j0 j1
      · exact arr rfl rfl j0 j1
      · exact arr rfl rfl j0 j1
      · exact arr rfl rfl j0 j1
      · exact arr rfl rfl j0 j1
      · exact arr rfl rfl j0 j1
      · exact arr rfl rfl j0 j1
      · exact arr rfl rfl j0 j1
      · exact arr rfl rfl j0 j1
      · exact arr rfl rfl j0 j1
      · exact arr rfl rfl j0 j1
      · exact arr rfl rfl j0 j1
      · exact arr rfl rfl j0 j1
      · exact arr rfl rfl j0 j1
      · exact arr rfl rfl j0 j1
      · exact arr rfl rfl j0 j1
      · exact arr rfl rfl j0 j1
      · exact arr rfl rfl j0 j1
      · exact arr rfl rfl j0 j1
      · exact absurd hq (by decide)
      · exact absurd hq (by decide)
      · exact absurd hq (by decide)
      · exact absurd hq (by decide)
      · exact absurd hq (by decide)
      · exact absurd hq (by decide)
      · exact absurd hq (by decide)
      · exact absurd hq (by decide)
      · exact absurd hq (by decide)
      · exact absurd hq (by decide)
      · exact absurd hq (by decide)
      · exact absurd hq (by decide)
      · exact absurd hq (by decide)
      · exact absurd hq (by decide)
      · exact absurd hq (by decide)
      · exact absurd hq (by decide)
      · exact absurd hq (by decide)
      · exact absurd hq (by decide)
      · exact absurd hq (by decide)
      · exact absurd hq (by decide)
      · exact absurd hq (by decide)
      · exact absurd hq (by decide)
      · exact absurd hq (by decide)
      · exact absurd hq (by decide)
      · exact absurd hq (by decide)
      · exact absurd hq (by decide)
      · exact absurd hq (by decide)
      · exact absurd hq (by decide)
      · exact absurd hq (by decide)
      · exact absurd hq (by decide)
      · exact absurd hq (by decide)
    · rw [iv_num_m hM' hC hq, iv_num_m hM hC hq]
  · intro i hi
    obtain ⟨f, g1, g2⟩ := hro 11 (A 11) 13 _ (hI.2.1 11 13 rfl) rfl rfl
    rw [iv_ctZ g1]
    exact g2 i hi
  · intro i hi
    rw [iv_105 hM' (by omega) (by omega), iv_105 hM (by omega) (by omega)]
  · intro x x0 x1
    rw [iv_104 hM' x0 x1, iv_104 hM x0 x1]
  · intro p a f hp hw e
    obtain ⟨f', g1, g2⟩ := hF.1 _ _ _ _ _ e
    refine ⟨f', g1, fun k hk => g2 k ?_⟩
    have := List.all_eq_true.mp (show (List.range 11).all (fun k => !iv_E 1 k) = true by decide) k (List.mem_range.mpr hk)
    simpa using this
  · intro k p a F hk hp hw e
    obtain ⟨F', g1, -⟩ := hF.2 _ _ _ _ _ e
    refine ⟨F', g1, fun hkr j hj => ?_⟩
    have hfl : ∀ k, k < 9 → iv_kr k = false → ∃ v : y_V, y_Rr.1[14 + k]? = some (true, 0, iv_ln k, 0, [v, v, v]) := by
      intro k hk hkr
      rcases k with _ | _ | _ | _ | _ | _ | _ | _ | _ | k
      all_goals first | omega | exact ⟨_, rfl⟩ | cases hkr
    obtain ⟨v, hv⟩ := hfl k hk hkr
    obtain ⟨f, g3, g4⟩ := hro p a (14 + k) _ hw hv rfl
    have g3 : h'[p]? = some (a, true, 0, iv_ln k, f) := g3
    rw [g1] at g3
    cases g3
    rw [g4 j hj, iv_ctZ e]
/-- a call of the reference that leaves what is told -/
theorem iv_J_m {A : Nat → Nat} {W : y_W} {b : Bool} {h h' : g_H} {M M1 : xa_M} (hJ : iv_JW A W b h) (hM : xa_H xm_I A M h h) (hM' : xa_H xm_I A M1 h h') (hk : xk_U M M1) (hInv : xm_Inv M1) : iv_JW A W b h' := by
  obtain ⟨hI, hr, hR, hK⟩ := hJ
  have low : ∀ q, ¬ (60 ≤ q ∧ q ≤ 105) → h'[q]? = h[q]? := fun q hq => hM'.2.2 q (xm_I_none hq)
  refine ⟨⟨iv_cls_kW hI.1 hI.2.1 hM', hI.2.1, M1, ⟨rfl, hM'.2.1, fun _ _ => rfl⟩, hInv⟩, iv_F_h (fun q hq => low q (by omega)) hr, lm_R_k (fun q j hC => ?_) hR, iv_kept_k (List.prefix_refl W) ?_ ?_ ?_ ?_ ?_ hK⟩
  · by_cases hq : q < 60
    · exact iv_num_h (low q (by omega)) j
    · rw [iv_num_m hM' hC hq, iv_num_m hM hC hq]
      refine hk q j ?_
      unfold lm_C at hC
      unfold xk_B
      simp only [Bool.or_eq_true, Bool.and_eq_true, Nat.beq_eq, decide_eq_true_eq]
      omega
  · intro i hi
    unfold iv_ct
    rw [low 11 (by omega)]
  · intro i hi
    rw [iv_105 hM' (by omega) (by omega), iv_105 hM (by omega) (by omega)]
    exact hk 105 i rfl
  · intro x x0 x1
    rw [iv_104 hM' x0 x1, iv_104 hM x0 x1]
    exact hk 104 x rfl
  · intro p a f hp hw e
    exact ⟨f, (low p (by omega)).trans e, fun _ _ => rfl⟩
  · intro k p a F hk9 hp hw e
    exact ⟨F, (low p (by omega)).trans e, fun _ _ _ => rfl⟩
def iv_hxR (j : Nat) (spec : List Nat) : Prop := ∀ (A : Nat → Nat) (h : g_H) (as : List Value), iv_J A h → iv_sp spec as → g_run 60 j (.ref (A 0) :: as) h 0 0 (fun r h' => (∃ v, r = some (.int v)) ∧ iv_J A h')
def iv_hmR (j : Nat) (spec : List Nat) : Prop := ∀ (A : Nat → Nat) (h : g_H) (as : List Value), iv_J A h → iv_sp spec as → g_run 60 j (.ref (A 60) :: as) h 0 0 (fun r h' => (∃ v, r = some (.int v)) ∧ iv_J A h')
theorem iv_pairR {A : Nat → Nat} {jx jm : Nat} {spec : List Nat} (hx : iv_hxR jx spec) (hm : iv_hmR jm spec) : iv_pair (iv_J A) A jx jm spec false false := by
  intro h as hI hs
  refine ⟨0, 0, by decide, by decide, g_run_mono (hx A h as hI hs) (fun r1 h1 hp => ?_)⟩
  obtain ⟨⟨v1, e1⟩, hI1⟩ := hp
  refine ⟨v1, e1, iv_sh_ok (iv_J_inv hI1), g_run_mono (hm A h1 as hI1 hs) (fun r2 h2 hp2 => ?_)⟩
  obtain ⟨⟨v2, e2⟩, hI2⟩ := hp2
  exact ⟨⟨v2, e2, fun h => by cases h⟩, hI2⟩
theorem iv_hxU {j : Nat} {K : y_Call} {Q : s_MI} {spec : List Nat} (hK : y_CS y_Rr K (g_run 60)) (hs : (K j ((2, 0, 0, 0, 0, 0, 0) :: spec.map iv_vs) []).isSome = true) (hq : s_mi[j]? = some Q) (hk : Q.2.1 = 1 ∨ Q.2.1 = 2) (hj : f_T iv_B j = true) : iv_hxR j spec := by
  intro A h as hI hsp
  obtain ⟨W, b, hJ⟩ := hI
  refine g_run_rt (f_run iv_T_ok _ _ _ _ _ _ _ (fun _ h' => iv_J A h') hj (iv_callR y_Rr_ro hK hs hJ.1 (fun β => ⟨⟨0, A 0, rfl, hJ.1.2.1 0 0 rfl⟩, iv_vs_g hsp⟩)) (fun r h' hp hF => by obtain ⟨W', -, hJ'⟩ := iv_J_c hJ hp hF; exact ⟨W', b, hJ'⟩)) (fun r h' h1 h2 => ⟨iv_rtI hq hk h2, h1⟩)
/-- a call of the reference that leaves what is told -/
theorem iv_callMU {d j : Nat} {A : Nat → Nat} {h : g_H} (hI : iv_J A h) {vs : List xa_V} {xs : List Value} (hx : xa_gS A vs xs) (hC : ∀ M : xa_M, xm_Inv M → xa_C xm_I A h d j vs M (fun _ M1 => xk_U M M1 ∧ xm_Inv M1)) : g_run d j xs h 0 0 (fun _ h' => iv_J A h') := by
  obtain ⟨W, b, hJ⟩ := hI
  obtain ⟨hH, hW, M, hM, hInv⟩ := hJ.1
  refine hC M hInv h xs hM hx _ (fun v M' x h' hv _ hM' => ?_)
  exact ⟨W, b, iv_J_m hJ hM hM' hv.1 hv.2⟩
theorem hxR_149 : iv_hxR 149 [] := iv_hxU (Q := (3, 1, false, 0, 0, 11)) (y_Krh_ok 60) y_sr_149 (by decide +kernel) (by decide) (by decide +kernel)
theorem hxR_190 : iv_hxR 190 [] := iv_hxU (Q := (1, 1, false, 0, 0, 11)) (y_Kr_ok 60) y_sr_190 (by decide +kernel) (by decide) (by decide +kernel)
theorem hxR_207 : iv_hxR 207 [0] := iv_hxU (Q := (2, 1, false, 0, 0, 11)) (y_Kr_ok 60) y_sr_207 (by decide +kernel) (by decide) (by decide +kernel)
theorem hmR_266 : iv_hmR 266 [] := by
  intro A h as hI hs
  obtain rfl := iv_sp0 hs
  exact g_run_rt (iv_callMU (d := 60) hI (vs := [(2, 60, 0, 0, 0)]) (xs := [.ref (A 60)]) ⟨rfl, trivial⟩ (fun M hM => ms_pierced hM (fun _ _ hc => ⟨xk_cor hc, xm_Inv_cor hc hM⟩))) (fun _ _ h1 h2 => ⟨iv_rtI (j := 266) (Q := (6, 1, false, 0, 0, 12)) (by decide +kernel) (by decide) h2, h1⟩)
theorem ms_yearK {A : Nat → Nat} {h0 : g_H} {d : Nat} {M : xa_M} {post : Option xa_V → xa_M → Prop} (hI : xm_Inv M) (k : ∀ (o : Option xa_V) (M1 : xa_M), xm_iz M M1 → post o M1) : xa_C xm_I A h0 (d + 1) 289 [(2, 60, 0, 0, 0)] M post := by
  refine xa_meth (Q0 := (3, 1, false, 0, 0, 12)) (by decide +kernel) ⟨rfl, rfl⟩ (full := s_c_289) rfl rfl ?_
  intro hM hv Q hgo
  have b59 := xm_f59 hM
  have loop0 : ∀ (n : Nat) (x2 x1 : Int) (M1 : xa_M), 1 ≤ x2 ∧ x2 ≤ 9 → xm_iz M M1 → M1 60 59 = M 60 59 → 9 - x2 < (n : Int) → Q 29 [(2, (0, 0, 1, 9, x2)), (1, (0, 0, (-2147483648), 2147483647, x1)), (0, (2, 60, 0, 0, 0))] [] M1 := by
    intro n
    induction n with
    | zero => intro x2 x1 M1 b2 hc h59 hms; omega
    | succ n ih0 =>
      intro x2 x1 M1 b2 hc h59 hms0
      refine hgo.1 20 [29] 29 _ _ _ ?_
      refine And.intro ?_ ?_
      · intro (c1 : (M1 60 59) ≤ x2)
        show post (some (0, 0, (-2147483648), 2147483647, x1)) M1
        exact k _ _ hc
      · intro (c1 : x2 < (M1 60 59))
        refine And.intro (show 0 ≤ x2 ∧ x2 < 8 by omega) ?_
        refine And.intro ?_ ?_
        · intro (c2 : ((xa_w32 (x1 + (M1 99 x2))).tmod 4) = 0)
          show Q 29 [(2, (0, 0, 2, 10, x2 + 1)), (1, (0, 0, (-2147483648), 2147483647, x1)), (0, (2, 60, 0, 0, 0))] [] M1
          refine hgo.2.1 29 _ [(2, (0, 0, 1, 9, x2 + 1)), (1, (0, 0, (-2147483648), 2147483647, x1)), (0, (2, 60, 0, 0, 0))] _ _ (xa_subI rfl rfl (fun _ _ _ _ => by omega) (xa_subI rfl rfl (fun _ _ _ _ => by omega) (xa_subR rfl xa_sub0))) ?_
          exact ih0 (x2 + 1) x1 M1 (by omega) hc (by first | omega | (simp [xa_up]; done) | (simp [xa_up]; omega)) (by omega)
        · intro (c2 : ¬ ((xa_w32 (x1 + (M1 99 x2))).tmod 4) = 0)
          show post (some (0, 0, (-2), (-2), (-2))) M1
          exact k _ _ hc
  refine hgo.1 24 [29] 0 _ _ _ ?_
  refine And.intro ?_ ?_
  · intro (c1 : ¬ (M 60 59) = 0)
    show Q 29 [(2, (0, 0, 1, 1, 1)), (1, (0, 0, 0, 3, (4 - ((M 99 0) % 4)) % 4)), (0, (2, 60, 0, 0, 0))] [] (xa_up M 60 21 0)
    refine hgo.2.1 29 _ [(2, (0, 0, 1, 9, 1)), (1, (0, 0, (-2147483648), 2147483647, (4 - ((M 99 0) % 4)) % 4)), (0, (2, 60, 0, 0, 0))] _ _ (xa_subI rfl rfl (fun _ _ _ _ => by omega) (xa_subI rfl rfl (fun _ _ _ _ => by omega) (xa_subR rfl xa_sub0))) ?_
    exact loop0 9 1 ((4 - ((M 99 0) % 4)) % 4) (xa_up M 60 21 0) (by omega) (xm_iz_u rfl xm_iz_r) (by first | omega | (simp [xa_up]; done) | (simp [xa_up]; omega)) (by omega)
  · intro (c1 : (M 60 59) = 0)
    show post (some (0, 0, (-1), (-1), (-1))) (xa_up M 60 21 0)
    exact k _ _ (xm_iz_u rfl xm_iz_r)
theorem hmR_289 : iv_hmR 289 [] := by
  intro A h as hI hs
  obtain rfl := iv_sp0 hs
  exact g_run_rt (iv_callMU (d := 60) hI (vs := [(2, 60, 0, 0, 0)]) (xs := [.ref (A 60)]) ⟨rfl, trivial⟩ (fun M hM => ms_yearK hM (fun _ _ hc => ⟨xm_iz_k hc, xm_Inv_is (xm_iz_is hc) hM⟩))) (fun _ _ h1 h2 => ⟨iv_rtI (j := 289) (Q := (3, 1, false, 0, 0, 12)) (by decide +kernel) (by decide) h2, h1⟩)
theorem ms_countK {A : Nat → Nat} {h0 : g_H} {d : Nat} {M : xa_M} {post : Option xa_V → xa_M → Prop} {l1 u1 : Int} {a : Int} (hI : xm_Inv M) (k : ∀ (o : Option xa_V) (M1 : xa_M), xm_iz M M1 → post o M1) : xa_C xm_I A h0 (d + 1) 300 [(2, 60, 0, 0, 0), (0, 0, l1, u1, a)] M post := by
  refine xa_C_arg [(2, 60, 0, 0, 0), (0, 0, (-2147483648), 2147483647, a)] (xa_svR (xa_svI (fun _ _ _ _ => by omega) xa_sv0)) ?_
  refine xa_meth (Q0 := (2, 1, false, 0, 0, 12)) (by decide +kernel) ⟨rfl, rfl⟩ (full := s_c_300) rfl rfl ?_
  intro hM hv Q hgo
  refine hgo.1 12 [] 0 _ _ _ ?_
  refine And.intro ?_ (And.intro ?_ (And.intro ?_ (And.intro ?_ (And.intro ?_ (And.intro ?_ (And.intro ?_ (And.intro ?_ (And.intro ?_ (And.intro ?_ (And.intro ?_ (And.intro ?_ trivial)))))))))))
  · intro (c1 : a < 0 ∨ 10 < a)
    show post (some (0, 0, (-1), (-1), (-1))) (xa_up M 60 21 0)
    exact k _ _ (xm_iz_u rfl xm_iz_r)
  · intro (c1 : a = 0)
    show post (some (0, 0, 0, 14, M 60 0)) (xa_up M 60 21 0)
    exact k _ _ (xm_iz_u rfl xm_iz_r)
  · intro (c1 : a = 1)
    show post (some (0, 0, 0, 16, M 60 6)) (xa_up M 60 21 0)
    exact k _ _ (xm_iz_u rfl xm_iz_r)
  · intro (c1 : a = 2)
    show post (some (0, 0, 0, 8, M 60 11)) (xa_up M 60 21 0)
    exact k _ _ (xm_iz_u rfl xm_iz_r)
  · intro (c1 : a = 3)
    show post (some (0, 0, (-2147483648), 2147483647, M 60 55)) (xa_up M 60 21 0)
    exact k _ _ (xm_iz_u rfl xm_iz_r)
  · intro (c1 : a = 4)
    show post (some (0, 0, 0, 20, M 60 56)) (xa_up M 60 21 0)
    exact k _ _ (xm_iz_u rfl xm_iz_r)
  · intro (c1 : a = 5)
    show post (some (0, 0, 0, 8, M 60 59)) (xa_up M 60 21 0)
    exact k _ _ (xm_iz_u rfl xm_iz_r)
  · intro (c1 : a = 6)
    show post (some (0, 0, 0, 12, M 60 61)) (xa_up M 60 21 0)
    exact k _ _ (xm_iz_u rfl xm_iz_r)
  · intro (c1 : a = 7)
    show post (some (0, 0, 0, 32, M 60 20)) (xa_up M 60 21 0)
    exact k _ _ (xm_iz_u rfl xm_iz_r)
  · intro (c1 : a = 8)
    show post (some (0, 0, 0, 80, M 60 18)) (xa_up M 60 21 0)
    exact k _ _ (xm_iz_u rfl xm_iz_r)
  · intro (c1 : a = 9)
    show post (some (0, 0, 10, 400, M 60 15)) (xa_up M 60 21 0)
    exact k _ _ (xm_iz_u rfl xm_iz_r)
  · intro (c1 : a = 10)
    show post (some (0, 0, 10, 400, M 60 16)) (xa_up M 60 21 0)
    exact k _ _ (xm_iz_u rfl xm_iz_r)
theorem hmR_300 : iv_hmR 300 [0] := by
  intro A h as hI hs
  obtain ⟨m1, ys, rfl, h1, hs⟩ := iv_spc hs
  obtain rfl := iv_sp0 hs
  exact g_run_rt (iv_callMU (d := 60) hI (vs := [(2, 60, 0, 0, 0), (0, 0, -2147483648, 2147483647, m1.toInt)]) (xs := [.ref (A 60), .int m1]) ⟨rfl, iv_i m1, trivial⟩ (fun M hM => ms_countK hM (fun _ _ hc => ⟨xm_iz_k hc, xm_Inv_is (xm_iz_is hc) hM⟩))) (fun _ _ h1 h2 => ⟨iv_rtI (j := 300) (Q := (2, 1, false, 0, 0, 12)) (by decide +kernel) (by decide) h2, h1⟩)
theorem ms_ofK {A : Nat → Nat} {h0 : g_H} {d : Nat} {M : xa_M} {post : Option xa_V → xa_M → Prop} {l1 u1 l2 u2 : Int} {a b : Int} (hI : xm_Inv M) (k : ∀ (o : Option xa_V) (M1 : xa_M), xk_U M M1 → xm_Inv M1 → post o M1) : xa_C xm_I A h0 (d + 3) 223 [(2, 60, 0, 0, 0), (0, 0, l1, u1, a), (0, 0, l2, u2, b)] M post := by
  refine xa_C_arg [(2, 60, 0, 0, 0), (0, 0, (-2147483648), 2147483647, a), (0, 0, (-2147483648), 2147483647, b)] (xa_svR (xa_svI (fun _ _ _ _ => by omega) (xa_svI (fun _ _ _ _ => by omega) xa_sv0))) ?_
  refine xa_meth (Q0 := (5, 1, false, 0, 0, 12)) (by decide +kernel) ⟨rfl, rfl⟩ (full := s_c_223) rfl rfl ?_
  intro hM hv Q hgo
  have b0 := xm_f0 hM
  have b6 := xm_f6 hM
  have loop : ∀ (n : Nat) (o c : Int), 0 ≤ o → o ≤ 14 → 14 - o < (n : Int) → Q 99 [(4, (0, 0, 0, 14, o)), (3, (0, 0, (-2147483648), 2147483647, c)), (1, (0, 0, (-2147483648), 2147483647, a)), (0, (2, 60, 0, 0, 0))] [] (xa_up M 60 21 0) := by
    intro n
    induction n with
    | zero => intro o c h1 h2 hms; omega
    | succ n ih =>
      intro o c h1 h2 hms
      refine hgo.1 22 [99] 99 _ _ _ ?_
      refine And.intro ?_ ?_
      · intro (c1 : (M 60 0) ≤ o)
        show post (some (0, 0, (-2147483648), 2147483647, c)) (xa_up M 60 21 0)
        exact k _ _ (xk_cor (xm_cor_f (by omega) xm_cor_r)) (xm_Inv_cor (xm_cor_f (by omega) xm_cor_r) hI)
      · intro (c1 : o < (M 60 0))
        show xa_C xm_I A h0 _ 221 [(2, 60, 0, 0, 0), (0, 0, (-2147483648), 2147483647, a), (0, 0, 0, 14, o)] (xa_up M 60 21 0) _
        refine ct_areMeshed (fun r2 zr2 er2 => ?_)
        refine And.intro ?_ ?_
        · intro (c3 : r2 = 0)
          show Q 99 [(4, (0, 0, 1, 15, o + 1)), (3, (0, 0, (-2147483648), 2147483647, c)), (1, (0, 0, (-2147483648), 2147483647, a)), (0, (2, 60, 0, 0, 0))] [] (xa_up M 60 21 0)
          refine hgo.2.1 99 _ [(4, (0, 0, 0, 14, o + 1)), (3, (0, 0, (-2147483648), 2147483647, c)), (1, (0, 0, (-2147483648), 2147483647, a)), (0, (2, 60, 0, 0, 0))] _ _ (xa_subI rfl rfl (fun _ _ _ _ => by omega) (xa_subI rfl rfl (fun _ _ _ _ => by omega) (xa_subI rfl rfl (fun _ _ _ _ => by omega) (xa_subR rfl xa_sub0)))) ?_
          exact ih (o + 1) c (by omega) (by omega) (by omega)
        · intro (c3 : ¬ r2 = 0)
          show Q 99 [(4, (0, 0, 1, 15, o + 1)), (3, (0, 0, (-2147483648), 2147483647, xa_ib 4 c (xa_ib 6 1 o))), (1, (0, 0, (-2147483648), 2147483647, a)), (0, (2, 60, 0, 0, 0))] [] (xa_up M 60 21 0)
          refine hgo.2.1 99 _ [(4, (0, 0, 0, 14, o + 1)), (3, (0, 0, (-2147483648), 2147483647, xa_ib 4 c (xa_ib 6 1 o))), (1, (0, 0, (-2147483648), 2147483647, a)), (0, (2, 60, 0, 0, 0))] _ _ (xa_subI rfl rfl (fun _ _ _ _ => by omega) (xa_subI rfl rfl (fun _ _ _ _ => by omega) (xa_subI rfl rfl (fun _ _ _ _ => by omega) (xa_subR rfl xa_sub0)))) ?_
          exact ih (o + 1) (xa_ib 4 c (xa_ib 6 1 o)) (by omega) (by omega) (by omega)
  refine hgo.1 36 [99] 0 _ _ _ ?_
  show xa_C xm_I A h0 _ 217 [(2, 60, 0, 0, 0), (0, 0, (-2147483648), 2147483647, a)] (xa_up M 60 21 0) _
  refine ct_isWheel ?_ ?_
  · intro (i1 : 0 ≤ a ∧ a < (M 60 0))
    show xa_C xm_I A h0 _ 214 [(0, 0, (-2147483648), 2147483647, b), (0, 0, 0, 0, 0), (0, 0, 5, 5, 5)] (xa_up M 60 21 0) _
    refine ct_in ?_ ?_
    · intro (i2 : 0 ≤ b ∧ b ≤ 5)
      refine And.intro ?_ ?_
      · intro (c3 : 5 ≤ b)
        show Q 99 [(4, (0, 0, 0, 0, 0)), (3, (0, 0, 0, 0, 0)), (0, (2, 60, 0, 0, 0)), (1, (0, 0, (-2147483648), 2147483647, a)), (2, (0, 0, (-2147483648), 2147483647, b))] [] (xa_up M 60 21 0)
        refine hgo.2.1 99 _ [(4, (0, 0, 0, 14, 0)), (3, (0, 0, (-2147483648), 2147483647, 0)), (1, (0, 0, (-2147483648), 2147483647, a)), (0, (2, 60, 0, 0, 0))] _ _ (xa_subI rfl rfl (fun _ _ _ _ => by omega) (xa_subI rfl rfl (fun _ _ _ _ => by omega) (xa_subI rfl rfl (fun _ _ _ _ => by omega) (xa_subR rfl xa_sub0)))) ?_
        exact loop 15 0 0 (by omega) (by omega) (by omega)
      · intro (c3 : b < 5)
        refine And.intro ?_ ?_
        · intro (c4 : ¬ b = 0)
          refine And.intro ?_ ?_
          · intro (c5 : ¬ b = 1)
            refine And.intro ?_ ?_
            · intro (c6 : ¬ b = 2)
              refine And.intro ?_ ?_
              · intro (c7 : ¬ b = 3)
                refine And.intro (show 0 ≤ a ∧ a < 14 by omega) ?_
                show post (some (0, 0, 0, 9, M 65 a)) (xa_up M 60 21 0)
                exact k _ _ (xk_cor (xm_cor_f (by omega) xm_cor_r)) (xm_Inv_cor (xm_cor_f (by omega) xm_cor_r) hI)
              · intro (c7 : b = 3)
                refine And.intro (show 0 ≤ a ∧ a < 14 by omega) ?_
                show post (some (0, 0, 0, 9, M 64 a)) (xa_up M 60 21 0)
                exact k _ _ (xk_cor (xm_cor_f (by omega) xm_cor_r)) (xm_Inv_cor (xm_cor_f (by omega) xm_cor_r) hI)
            · intro (c6 : b = 2)
              refine And.intro (show 0 ≤ a ∧ a < 14 by omega) ?_
              show post (some (0, 0, 0, 400, M 63 a)) (xa_up M 60 21 0)
              exact k _ _ (xk_cor (xm_cor_f (by omega) xm_cor_r)) (xm_Inv_cor (xm_cor_f (by omega) xm_cor_r) hI)
          · intro (c5 : b = 1)
            refine And.intro (show 0 ≤ a ∧ a < 14 by omega) ?_
            show post (some (0, 0, 0, 400, M 62 a)) (xa_up M 60 21 0)
            exact k _ _ (xk_cor (xm_cor_f (by omega) xm_cor_r)) (xm_Inv_cor (xm_cor_f (by omega) xm_cor_r) hI)
        · intro (c4 : b = 0)
          refine And.intro (show 0 ≤ a ∧ a < 14 by omega) ?_
          show post (some (0, 0, 0, 400, M 61 a)) (xa_up M 60 21 0)
          exact k _ _ (xk_cor (xm_cor_f (by omega) xm_cor_r)) (xm_Inv_cor (xm_cor_f (by omega) xm_cor_r) hI)
    · intro (i2 : ¬ (0 ≤ b ∧ b ≤ 5))
      show xa_C xm_I A h0 _ 224 [(2, 60, 0, 0, 0)] (xa_up M 60 21 0) _
      refine ct_lost ?_
      show post (some (0, 0, 0, 0, 0)) (xa_up (xa_up M 60 21 0) 60 21 1)
      exact k _ _ (xk_cor (xm_cor_f (by omega) (xm_cor_f (by omega) xm_cor_r))) (xm_Inv_cor (xm_cor_f (by omega) (xm_cor_f (by omega) xm_cor_r)) hI)
  · intro (i1 : ¬ (0 ≤ a ∧ a < (M 60 0)))
    show xa_C xm_I A h0 _ 224 [(2, 60, 0, 0, 0)] (xa_up M 60 21 0) _
    refine ct_lost ?_
    show post (some (0, 0, 0, 0, 0)) (xa_up (xa_up M 60 21 0) 60 21 1)
    exact k _ _ (xk_cor (xm_cor_f (by omega) (xm_cor_f (by omega) xm_cor_r))) (xm_Inv_cor (xm_cor_f (by omega) (xm_cor_f (by omega) xm_cor_r)) hI)
theorem hmR_223 : iv_hmR 223 [0, 0] := by
  intro A h as hI hs
  obtain ⟨m1, ys, rfl, h1, hs⟩ := iv_spc hs
  obtain ⟨m2, ys, rfl, h2, hs⟩ := iv_spc hs
  obtain rfl := iv_sp0 hs
  exact g_run_rt (iv_callMU (d := 60) hI (vs := [(2, 60, 0, 0, 0), (0, 0, -2147483648, 2147483647, m1.toInt), (0, 0, -2147483648, 2147483647, m2.toInt)]) (xs := [.ref (A 60), .int m1, .int m2]) ⟨rfl, iv_i m1, iv_i m2, trivial⟩ (fun M hM => ms_ofK hM (fun _ _ h1 h2 => ⟨h1, h2⟩))) (fun _ _ h1 h2 => ⟨iv_rtI (j := 223) (Q := (5, 1, false, 0, 0, 12)) (by decide +kernel) (by decide) h2, h1⟩)
