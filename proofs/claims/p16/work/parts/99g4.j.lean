-- what is the same
set_option maxRecDepth 20000
def xk_B (q : Nat) (j : Int) : Bool := (Nat.beq q 60 && (decide (j = 0) || decide (j = 6) || decide (j = 18) || decide (j = 11))) || (Nat.beq q 61 || Nat.beq q 62 || Nat.beq q 63 || Nat.beq q 64 || Nat.beq q 65 || Nat.beq q 66 || Nat.beq q 67 || Nat.beq q 73 || Nat.beq q 70 || Nat.beq q 71 || Nat.beq q 72 || Nat.beq q 104 || Nat.beq q 105)
theorem xk_eq {q : Nat} {j : Int} (h : xk_B q j = true) : (q = 60 ∧ (j = 0 ∨ j = 6 ∨ j = 18 ∨ j = 11)) ∨ q = 61 ∨ q = 62 ∨ q = 63 ∨ q = 64 ∨ q = 65 ∨ q = 66 ∨ q = 67 ∨ q = 73 ∨ q = 70 ∨ q = 71 ∨ q = 72 ∨ q = 104 ∨ q = 105 := by
  unfold xk_B at h
  simp only [Bool.or_eq_true, Bool.and_eq_true, Nat.beq_eq, decide_eq_true_eq] at h
  omega
/-- places that a call of the reference leaves -/
def xk_U (M M1 : xa_M) : Prop := ∀ (q : Nat) (j : Int), xk_B q j = true → M1 q j = M q j
theorem xk_cor {M M1 : xa_M} (h : xm_cor M M1) : xk_U M M1 := fun q j hq => by
  have hq' := xk_eq hq
  exact h q j (by omega)
/-- as xm_is, of a region too -/
def xm_izB (q : Nat) (j : Int) : Bool := xm_icB q j || xk_B q j
def xm_iz (M M1 : xa_M) : Prop := ∀ q j, xm_izB q j = true → M1 q j = M q j
theorem xm_iz_r {M : xa_M} : xm_iz M M := fun _ _ _ => rfl
theorem xm_iz_u {M M1 : xa_M} {q : Nat} {j v : Int} (hq : xm_izB q j = false) (h : xm_iz M M1) : xm_iz M (xa_up M1 q j v) := by
  intro q2 j2 h2
  rw [xa_up_ne (fun e => by rw [e.1, e.2, hq] at h2; cases h2)]
  exact h q2 j2 h2
theorem xm_iz_is {M M1 : xa_M} (h : xm_iz M M1) : xm_is M M1 := fun q j hq => h q j (by unfold xm_izB; rw [hq]; rfl)
theorem xm_iz_k {M M1 : xa_M} (h : xm_iz M M1) : xk_U M M1 := fun q j hq => h q j (by unfold xm_izB; rw [hq, Bool.or_true])
def lm_C (q : Nat) (j : Int) : Prop := (q = 1 ∧ (j = 9 ∨ j = 10)) ∨ (q = 30 ∧ j = 1) ∨ (q = 50 ∧ j = 4) ∨ (q = 55 ∧ j = 4) ∨ ((q = 2 ∨ q = 3 ∨ q = 4 ∨ q = 5 ∨ q = 6) ∧ 0 ≤ j ∧ j < 14) ∨ ((q = 7 ∨ q = 8) ∧ 0 ≤ j ∧ j < 16) ∨ (q = 31 ∧ 0 ≤ j ∧ j < 80) ∨ ((q = 51 ∨ q = 52 ∨ q = 53 ∨ q = 56 ∨ q = 57 ∨ q = 58) ∧ 0 ≤ j ∧ j < 8) ∨ (q = 60 ∧ (j = 0 ∨ j = 6 ∨ j = 18 ∨ j = 11)) ∨ ((q = 61 ∨ q = 62 ∨ q = 63 ∨ q = 64 ∨ q = 65) ∧ 0 ≤ j ∧ j < 14) ∨ ((q = 66 ∨ q = 67) ∧ 0 ≤ j ∧ j < 16) ∨ (q = 73 ∧ 0 ≤ j ∧ j < 80) ∨ ((q = 70 ∨ q = 71 ∨ q = 72) ∧ 0 ≤ j ∧ j < 8)
def bk_p (b : Bool) : Nat := bif b then 55 else 50
/-- a name: the reference's, the class's -/
def bk_n (v : Int) : Int := if v = -1 then 0 else v
def lm_CS (q : Nat) (j : Int) : Prop := (q = 30 ∧ j = 1) ∨ (q = 50 ∧ j = 4) ∨ (q = 55 ∧ j = 4) ∨ (q = 31 ∧ 0 ≤ j ∧ j < 80) ∨ ((q = 51 ∨ q = 52 ∨ q = 53 ∨ q = 56 ∨ q = 57 ∨ q = 58) ∧ 0 ≤ j ∧ j < 8) ∨ (q = 60 ∧ (j = 18 ∨ j = 11)) ∨ (q = 73 ∧ 0 ≤ j ∧ j < 80) ∨ ((q = 70 ∨ q = 71 ∨ q = 72) ∧ 0 ≤ j ∧ j < 8)
/-- the text, the book -/
def lm_S (b : Bool) (M : xa_M) : Prop := M 30 1 = M 60 18 ∧ (∀ i, 0 ≤ i → i < 80 → M 31 i = M 73 i % 256) ∧ M (bk_p b) 4 = M 60 11 ∧ ∀ i, 0 ≤ i → i < 8 → i < M 60 11 → M (bk_p b + 1) i = M 70 i ∧ M (bk_p b + 2) i = M 71 i ∧ M (bk_p b + 3) i = bk_n (M 72 i)
theorem lm_S_k {b : Bool} {M M' : xa_M} (e : ∀ q j, lm_CS q j → M' q j = M q j) (h : lm_S b M) : lm_S b M' := by
  obtain ⟨h1, h2, h3, h4⟩ := h
  cases b
  · refine ⟨by rw [e 30 1 (by unfold lm_CS; omega), e 60 18 (by unfold lm_CS; omega)]; exact h1, fun i i0 i1 => by rw [e 31 i (by unfold lm_CS; omega), e 73 i (by unfold lm_CS; omega)]; exact h2 i i0 i1, ?_, fun i i0 i1 i2 => ?_⟩
    · show M' 50 4 = M' 60 11
      rw [e 50 4 (by unfold lm_CS; omega), e 60 11 (by unfold lm_CS; omega)]
      exact h3
    · rw [e 60 11 (by unfold lm_CS; omega)] at i2
      have g := h4 i i0 i1 i2
      show M' 51 i = M' 70 i ∧ M' 52 i = M' 71 i ∧ M' 53 i = bk_n (M' 72 i)
      rw [e 51 i (by unfold lm_CS; omega), e 52 i (by unfold lm_CS; omega), e 53 i (by unfold lm_CS; omega), e 70 i (by unfold lm_CS; omega), e 71 i (by unfold lm_CS; omega), e 72 i (by unfold lm_CS; omega)]
      exact g
  · refine ⟨by rw [e 30 1 (by unfold lm_CS; omega), e 60 18 (by unfold lm_CS; omega)]; exact h1, fun i i0 i1 => by rw [e 31 i (by unfold lm_CS; omega), e 73 i (by unfold lm_CS; omega)]; exact h2 i i0 i1, ?_, fun i i0 i1 i2 => ?_⟩
    · show M' 55 4 = M' 60 11
      rw [e 55 4 (by unfold lm_CS; omega), e 60 11 (by unfold lm_CS; omega)]
      exact h3
    · rw [e 60 11 (by unfold lm_CS; omega)] at i2
      have g := h4 i i0 i1 i2
      show M' 56 i = M' 70 i ∧ M' 57 i = M' 71 i ∧ M' 58 i = bk_n (M' 72 i)
      rw [e 56 i (by unfold lm_CS; omega), e 57 i (by unfold lm_CS; omega), e 58 i (by unfold lm_CS; omega), e 70 i (by unfold lm_CS; omega), e 71 i (by unfold lm_CS; omega), e 72 i (by unfold lm_CS; omega)]
      exact g
theorem lm_S0 {M : xa_M} (h1 : M 30 1 = M 60 18) (h2 : ∀ i, 0 ≤ i → i < 80 → M 31 i = M 73 i % 256) (h3 : M 50 4 = 0) (h4 : M 60 11 = 0) : lm_S false M := ⟨h1, h2, h3.trans h4.symm, fun i i0 _ i2 => by rw [h4] at i2; omega⟩
theorem lm_CS_C {q : Nat} {j : Int} (h : lm_CS q j) : lm_C q j := by
  unfold lm_CS at h
  rcases h with ⟨rfl, rfl⟩ | ⟨rfl, rfl⟩ | ⟨rfl, rfl⟩ | ⟨rfl, j0, j1⟩ | ⟨rfl | rfl | rfl | rfl | rfl | rfl, j0, j1⟩ | ⟨rfl, rfl | rfl⟩ | ⟨rfl, j0, j1⟩ | ⟨rfl | rfl | rfl, j0, j1⟩ <;> (unfold lm_C; omega)
def lm_R0 (M : xa_M) : Prop := M 1 9 = M 60 0 ∧ M 1 10 = M 60 6 ∧ (∀ i, 0 ≤ i → i < 14 → M 2 i = M 61 i ∧ M 3 i = M 62 i ∧ M 5 i = M 64 i ∧ M 6 i = M 65 i ∧ M 4 i = M 63 i) ∧ ∀ i, 0 ≤ i → i < 16 → M 7 i = M 66 i ∧ M 8 i = M 67 i
def lm_R (b : Bool) (M : xa_M) : Prop := lm_R0 M ∧ lm_S b M
theorem lm_R_k {b : Bool} {M M' : xa_M} (e : ∀ q j, lm_C q j → M' q j = M q j) (h : lm_R b M) : lm_R b M' := by
  obtain ⟨⟨h1, h2, h3, h4⟩, hS⟩ := h
  have e1 := e 1 9 (by unfold lm_C; omega)
  have e2 := e 1 10 (by unfold lm_C; omega)
  have e3 := e 60 0 (by unfold lm_C; omega)
  have e4 := e 60 6 (by unfold lm_C; omega)
  refine ⟨⟨by rw [e1, e3]; exact h1, by rw [e2, e4]; exact h2, fun i i0 i1 => ?_, fun i i0 i1 => ?_⟩, lm_S_k (fun q j hC => e q j (lm_CS_C hC)) hS⟩
  · have g := h3 i i0 i1
    rw [e 2 i (by unfold lm_C; omega), e 3 i (by unfold lm_C; omega), e 5 i (by unfold lm_C; omega), e 6 i (by unfold lm_C; omega), e 61 i (by unfold lm_C; omega), e 62 i (by unfold lm_C; omega), e 64 i (by unfold lm_C; omega), e 65 i (by unfold lm_C; omega), e 4 i (by unfold lm_C; omega), e 63 i (by unfold lm_C; omega)]
    exact g
  · have g := h4 i i0 i1
    rw [e 7 i (by unfold lm_C; omega), e 8 i (by unfold lm_C; omega), e 66 i (by unfold lm_C; omega), e 67 i (by unfold lm_C; omega)]
    exact g
/-- the numbers of the core: those of the class, those of the reference -/
theorem lm_CX {q : Nat} {j : Int} (h : lm_C q j) : (q < 60 ∧ ∀ b, ∃ ro S, xl_I b q = some (ro, S) ∧ 0 ≤ j ∧ j < (ro.2.2.1 : Int) ∧ (xa_sp ro j.toNat).1 < 2) ∨ (¬ q < 60 ∧ ∃ ro S, xm_I q = some (ro, S) ∧ 0 ≤ j ∧ j < (ro.2.2.1 : Int) ∧ (xa_sp ro j.toNat).1 < 2) := by
  unfold lm_C at h
  rcases h with ⟨rfl, rfl | rfl⟩ | ⟨rfl, rfl⟩ | ⟨rfl, rfl⟩ | ⟨rfl, rfl⟩ | ⟨rfl | rfl | rfl | rfl | rfl, j0, j1⟩ | ⟨rfl | rfl, j0, j1⟩ | ⟨rfl, j0, j1⟩ | ⟨rfl | rfl | rfl | rfl | rfl | rfl, j0, j1⟩ | ⟨rfl, rfl | rfl | rfl | rfl⟩ | ⟨rfl | rfl | rfl | rfl | rfl, j0, j1⟩ | ⟨rfl | rfl, j0, j1⟩ | ⟨rfl, j0, j1⟩ | ⟨rfl | rfl | rfl, j0, j1⟩
  · exact Or.inl ⟨by decide, fun b => ⟨_, _, rfl, by decide, by decide, by decide⟩⟩
  · exact Or.inl ⟨by decide, fun b => ⟨_, _, rfl, by decide, by decide, by decide⟩⟩
  · exact Or.inl ⟨by decide, fun b => ⟨_, _, rfl, by decide, by decide, by decide⟩⟩
  · exact Or.inl ⟨by decide, fun b => ⟨_, _, rfl, by decide, by decide, by decide⟩⟩
  · exact Or.inl ⟨by decide, fun b => ⟨_, _, rfl, by decide, by decide, by decide⟩⟩
  · exact Or.inl ⟨by decide, fun b => ⟨_, _, rfl, j0, j1, by show (0 : Nat) < 2; decide⟩⟩
  · exact Or.inl ⟨by decide, fun b => ⟨_, _, rfl, j0, j1, by show (0 : Nat) < 2; decide⟩⟩
  · exact Or.inl ⟨by decide, fun b => ⟨_, _, rfl, j0, j1, by show (0 : Nat) < 2; decide⟩⟩
  · exact Or.inl ⟨by decide, fun b => ⟨_, _, rfl, j0, j1, by show (0 : Nat) < 2; decide⟩⟩
  · exact Or.inl ⟨by decide, fun b => ⟨_, _, rfl, j0, j1, by show (0 : Nat) < 2; decide⟩⟩
  · exact Or.inl ⟨by decide, fun b => ⟨_, _, rfl, j0, j1, by show (0 : Nat) < 2; decide⟩⟩
  · exact Or.inl ⟨by decide, fun b => ⟨_, _, rfl, j0, j1, by show (0 : Nat) < 2; decide⟩⟩
  · exact Or.inl ⟨by decide, fun b => ⟨_, _, rfl, j0, j1, by show (0 : Nat) < 2; decide⟩⟩
  · exact Or.inl ⟨by decide, fun b => ⟨_, _, rfl, j0, j1, by show (0 : Nat) < 2; decide⟩⟩
  · exact Or.inl ⟨by decide, fun b => ⟨_, _, rfl, j0, j1, by show (0 : Nat) < 2; decide⟩⟩
  · exact Or.inl ⟨by decide, fun b => ⟨_, _, rfl, j0, j1, by show (0 : Nat) < 2; decide⟩⟩
  · exact Or.inl ⟨by decide, fun b => ⟨_, _, rfl, j0, j1, by show (0 : Nat) < 2; decide⟩⟩
  · exact Or.inl ⟨by decide, fun b => ⟨_, _, rfl, j0, j1, by show (0 : Nat) < 2; decide⟩⟩
  · exact Or.inl ⟨by decide, fun b => ⟨_, _, rfl, j0, j1, by show (0 : Nat) < 2; decide⟩⟩
  · exact Or.inr ⟨by decide, _, _, rfl, by decide, by decide, by decide⟩
  · exact Or.inr ⟨by decide, _, _, rfl, by decide, by decide, by decide⟩
  · exact Or.inr ⟨by decide, _, _, rfl, by decide, by decide, by decide⟩
  · exact Or.inr ⟨by decide, _, _, rfl, by decide, by decide, by decide⟩
  · exact Or.inr ⟨by decide, _, _, rfl, j0, j1, by show (0 : Nat) < 2; decide⟩
  · exact Or.inr ⟨by decide, _, _, rfl, j0, j1, by show (0 : Nat) < 2; decide⟩
  · exact Or.inr ⟨by decide, _, _, rfl, j0, j1, by show (0 : Nat) < 2; decide⟩
  · exact Or.inr ⟨by decide, _, _, rfl, j0, j1, by show (0 : Nat) < 2; decide⟩
  · exact Or.inr ⟨by decide, _, _, rfl, j0, j1, by show (0 : Nat) < 2; decide⟩
  · exact Or.inr ⟨by decide, _, _, rfl, j0, j1, by show (0 : Nat) < 2; decide⟩
  · exact Or.inr ⟨by decide, _, _, rfl, j0, j1, by show (0 : Nat) < 2; decide⟩
  · exact Or.inr ⟨by decide, _, _, rfl, j0, j1, by show (0 : Nat) < 2; decide⟩
  · exact Or.inr ⟨by decide, _, _, rfl, j0, j1, by show (0 : Nat) < 2; decide⟩
  · exact Or.inr ⟨by decide, _, _, rfl, j0, j1, by show (0 : Nat) < 2; decide⟩
  · exact Or.inr ⟨by decide, _, _, rfl, j0, j1, by show (0 : Nat) < 2; decide⟩
def iv_JW (A : Nat → Nat) (W : y_W) (b : Bool) (h : g_H) : Prop := iv_iW A W h ∧ iv_F b A h ∧ lm_R b (iv_num h) ∧ iv_kept W h
def iv_J (A : Nat → Nat) (h : g_H) : Prop := ∃ (W : y_W) (b : Bool), iv_JW A W b h
theorem iv_J_inv {A : Nat → Nat} {h : g_H} (hJ : iv_J A h) : iv_inv A h := by
  obtain ⟨W, b, hJ⟩ := hJ
  exact iv_iW_inv hJ.1
/-- numbers of the reference, where its memory is known -/
theorem iv_num_m {A : Nat → Nat} {M : xa_M} {h0 h : g_H} (hM : xa_H xm_I A M h0 h) {q : Nat} {j : Int} (hC : lm_C q j) (hq : ¬ q < 60) : iv_num h q j = M q j := by
  rcases lm_CX hC with ⟨h1, -⟩ | ⟨-, ro, S, e1, e2, e3, e4⟩
  · exact absurd h1 hq
  · exact iv_num_M hM e1 e2 e3 e4
theorem iv_num_x {b : Bool} {A : Nat → Nat} {M : xa_M} {h0 h : g_H} (hM : xa_H (xl_I b) A M h0 h) {q : Nat} {j : Int} (hC : lm_C q j) (hq : q < 60) : iv_num h q j = M q j := by
  rcases lm_CX hC with ⟨-, h1⟩ | ⟨h1, -⟩
  · obtain ⟨ro, S, e1, e2, e3, e4⟩ := h1 b
    exact iv_num_M hM e1 e2 e3 e4
  · exact absurd hq h1
theorem iv_104 {A : Nat → Nat} {M : xa_M} {h0 h : g_H} (hM : xa_H xm_I A M h0 h) {x : Int} (x0 : 0 ≤ x) (x1 : x < 496) : iv_num h 104 x = M 104 x := iv_num_M hM rfl x0 x1 (by show (0 : Nat) < 2; decide)
theorem iv_105 {A : Nat → Nat} {M : xa_M} {h0 h : g_H} (hM : xa_H xm_I A M h0 h) {x : Int} (x0 : 0 ≤ x) (x1 : x < 4) : iv_num h 105 x = M 105 x := iv_num_M hM rfl x0 x1 (by show (0 : Nat) < 2; decide)
/-- a cell of the class, told by its world -/
theorem iv_cell {A : Nat → Nat} {W : y_W} {h : g_H} (hI : iv_iW A W h) {q r : Nat} {ro : y_R1} (hr : iv_rl[q]? = some r) (hro : y_Rc.1[r]? = some ro) : ∃ f, h[q]? = some (A q, ro.1, ro.2.1, ro.2.2.1, f) := by
  obtain ⟨⟨β, hH⟩, hW, -⟩ := hI
  obtain ⟨ro', f, g1, g2, -⟩ := hH.2.1 q (A q) r (hW q r hr)
  rw [hro] at g1
  cases g1
  exact ⟨f, g2⟩
/-- a call of the class that writes nothing that is told -/
theorem iv_J_c {A : Nat → Nat} {W : y_W} {b : Bool} {h h' : g_H} (hJ : iv_JW A W b h) (hx : iv_xW A W h h') (hF : f_Fr iv_E iv_K h h') : ∃ W', W <+: W' ∧ iv_JW A W' b h' := by
  obtain ⟨hI, hr, hR, hK⟩ := hJ
  obtain ⟨W', hWW, hI', hro, km⟩ := hx
  obtain ⟨M, hM, -⟩ := hI.2.2
  have hM' := km M hM
  refine ⟨W', hWW, hI', iv_F_fr hI hF hr, lm_R_k (fun q j hC => ?_) hR, iv_kept_k hWW ?_ ?_ ?_ ?_ ?_ hK⟩
  · by_cases hq : q < 60
    · have hC' := hC
      unfold lm_C at hC
      have arr : ∀ {r n k : Nat} {v : y_V}, iv_rl[q]? = some r → y_Rr.1[r]? = some (true, k, n, 0, [v, v, v]) → 0 ≤ j → j < (n : Int) → iv_num h' q j = iv_num h q j := by
        intro r n k v e1 e2 j0 j1
        obtain ⟨f, g1, g2⟩ := hro q (A q) r _ (hI.2.1 q r e1) e2 rfl
        refine iv_num_c ?_
        rw [iv_ctZ g1]
        exact g2 j.toNat (by show j.toNat < n; omega)
      rcases hC with ⟨rfl, rfl | rfl⟩ | ⟨rfl, rfl⟩ | ⟨rfl, rfl⟩ | ⟨rfl, rfl⟩ | ⟨rfl | rfl | rfl | rfl | rfl, j0, j1⟩ | ⟨rfl | rfl, j0, j1⟩ | ⟨rfl, j0, j1⟩ | ⟨rfl | rfl | rfl | rfl | rfl | rfl, j0, j1⟩ | ⟨rfl, rfl | rfl | rfl | rfl⟩ | ⟨rfl | rfl | rfl | rfl | rfl, j0, j1⟩ | ⟨rfl | rfl, j0, j1⟩ | ⟨rfl, j0, j1⟩ | ⟨rfl | rfl | rfl, j0, j1⟩
      · obtain ⟨f, e⟩ := iv_cell hI (q := 1) rfl rfl
        exact iv_num_F hF e (k := 9) rfl
      · obtain ⟨f, e⟩ := iv_cell hI (q := 1) rfl rfl
        exact iv_num_F hF e (k := 10) rfl
      · obtain ⟨f, e⟩ := iv_cell hI (q := 30) rfl rfl
        exact iv_num_F hF e (k := 1) rfl
      · obtain ⟨f, e⟩ := iv_cell hI (q := 50) rfl rfl
        exact iv_num_F hF e (k := 4) rfl
      · obtain ⟨f, e⟩ := iv_cell hI (q := 55) rfl rfl
        exact iv_num_F hF e (k := 4) rfl
      · exact arr rfl rfl j0 j1
      · exact arr rfl rfl j0 j1
      · exact arr rfl rfl j0 j1
      · exact arr rfl rfl j0 j1
      · exact arr rfl rfl j0 j1
      · exact arr rfl rfl j0 j1
      · exact arr rfl rfl j0 j1
      · exact arr rfl rfl j0 j1
      · exact arr rfl rfl j0 j1
      · exact arr rfl rfl j0 j1
      · exact arr rfl rfl j0 j1
      · exact arr rfl rfl j0 j1
      · exact arr rfl rfl j0 j1
      · exact arr rfl rfl j0 j1
      · exact absurd hq (by decide)
      · exact absurd hq (by decide)
      · exact absurd hq (by decide)
      · exact absurd hq (by decide)
      · exact absurd hq (by decide)
      · exact absurd hq (by decide)
      · exact absurd hq (by decide)
      · exact absurd hq (by decide)
      · exact absurd hq (by decide)
      · exact absurd hq (by decide)
      · exact absurd hq (by decide)
      · exact absurd hq (by decide)
      · exact absurd hq (by decide)
      · exact absurd hq (by decide)
      · exact absurd hq (by decide)
    · rw [iv_num_m hM' hC hq, iv_num_m hM hC hq]
  · intro i hi
    obtain ⟨f, g1, g2⟩ := hro 11 (A 11) 13 _ (hI.2.1 11 13 rfl) rfl rfl
    rw [iv_ctZ g1]
    exact g2 i hi
  · intro i hi
    rw [iv_105 hM' (by omega) (by omega), iv_105 hM (by omega) (by omega)]
  · intro x x0 x1
    rw [iv_104 hM' x0 x1, iv_104 hM x0 x1]
  · intro p a f hp hw e
    obtain ⟨f', g1, g2⟩ := hF.1 _ _ _ _ _ e
    refine ⟨f', g1, fun k hk => g2 k ?_⟩
    have := List.all_eq_true.mp (show (List.range 11).all (fun k => !iv_E 1 k) = true by decide) k (List.mem_range.mpr hk)
    simpa using this
  · intro k p a F hk hp hw e
    obtain ⟨F', g1, -⟩ := hF.2 _ _ _ _ _ e
    refine ⟨F', g1, fun hkr j hj => ?_⟩
    have hfl : ∀ k, k < 9 → iv_kr k = false → ∃ v : y_V, y_Rr.1[14 + k]? = some (true, 0, iv_ln k, 0, [v, v, v]) := by
      intro k hk hkr
      rcases k with _ | _ | _ | _ | _ | _ | _ | _ | _ | k
      all_goals first | omega | exact ⟨_, rfl⟩ | cases hkr
    obtain ⟨v, hv⟩ := hfl k hk hkr
    obtain ⟨f, g3, g4⟩ := hro p a (14 + k) _ hw hv rfl
    have g3 : h'[p]? = some (a, true, 0, iv_ln k, f) := g3
    rw [g1] at g3
    cases g3
    rw [g4 j hj, iv_ctZ e]
/-- a call of the reference that leaves what is told -/
theorem iv_J_m {A : Nat → Nat} {W : y_W} {b : Bool} {h h' : g_H} {M M1 : xa_M} (hJ : iv_JW A W b h) (hM : xa_H xm_I A M h h) (hM' : xa_H xm_I A M1 h h') (hk : xk_U M M1) (hInv : xm_Inv M1) : iv_JW A W b h' := by
  obtain ⟨hI, hr, hR, hK⟩ := hJ
  have low : ∀ q, ¬ (60 ≤ q ∧ q ≤ 105) → h'[q]? = h[q]? := fun q hq => hM'.2.2 q (xm_I_none hq)
  refine ⟨⟨iv_cls_kW hI.1 hI.2.1 hM', hI.2.1, M1, ⟨rfl, hM'.2.1, fun _ _ => rfl⟩, hInv⟩, iv_F_h (fun q hq => low q (by omega)) hr, lm_R_k (fun q j hC => ?_) hR, iv_kept_k (List.prefix_refl W) ?_ ?_ ?_ ?_ ?_ hK⟩
  · by_cases hq : q < 60
    · exact iv_num_h (low q (by omega)) j
    · rw [iv_num_m hM' hC hq, iv_num_m hM hC hq]
      refine hk q j ?_
      unfold lm_C at hC
      unfold xk_B
      simp only [Bool.or_eq_true, Bool.and_eq_true, Nat.beq_eq, decide_eq_true_eq]
      omega
  · intro i hi
    unfold iv_ct
    rw [low 11 (by omega)]
  · intro i hi
    rw [iv_105 hM' (by omega) (by omega), iv_105 hM (by omega) (by omega)]
    exact hk 105 i rfl
  · intro x x0 x1
    rw [iv_104 hM' x0 x1, iv_104 hM x0 x1]
    exact hk 104 x rfl
  · intro p a f hp hw e
    exact ⟨f, (low p (by omega)).trans e, fun _ _ => rfl⟩
  · intro k p a F hk9 hp hw e
    exact ⟨F, (low p (by omega)).trans e, fun _ _ _ => rfl⟩
def iv_hxR (j : Nat) (spec : List Nat) : Prop := ∀ (A : Nat → Nat) (h : g_H) (as : List Value), iv_J A h → iv_sp spec as → g_run 60 j (.ref (A 0) :: as) h 0 0 (fun r h' => (∃ v, r = some (.int v)) ∧ iv_J A h')
def iv_hmR (j : Nat) (spec : List Nat) : Prop := ∀ (A : Nat → Nat) (h : g_H) (as : List Value), iv_J A h → iv_sp spec as → g_run 60 j (.ref (A 60) :: as) h 0 0 (fun r h' => (∃ v, r = some (.int v)) ∧ iv_J A h')
theorem iv_pairR {A : Nat → Nat} {jx jm : Nat} {spec : List Nat} (hx : iv_hxR jx spec) (hm : iv_hmR jm spec) : iv_pair (iv_J A) A jx jm spec false false := by
  intro h as hI hs
  refine ⟨0, 0, by decide, by decide, g_run_mono (hx A h as hI hs) (fun r1 h1 hp => ?_)⟩
  obtain ⟨⟨v1, e1⟩, hI1⟩ := hp
  refine ⟨v1, e1, iv_sh_ok (iv_J_inv hI1), g_run_mono (hm A h1 as hI1 hs) (fun r2 h2 hp2 => ?_)⟩
  obtain ⟨⟨v2, e2⟩, hI2⟩ := hp2
  exact ⟨⟨v2, e2, fun h => by cases h⟩, hI2⟩
theorem iv_hxU {j : Nat} {K : y_Call} {Q : s_MI} {spec : List Nat} (hK : y_CS y_Rr K (g_run 60)) (hs : (K j ((2, 0, 0, 0, 0, 0, 0) :: spec.map iv_vs) []).isSome = true) (hq : s_mi[j]? = some Q) (hk : Q.2.1 = 1 ∨ Q.2.1 = 2) (hj : f_T iv_B j = true) : iv_hxR j spec := by
  intro A h as hI hsp
  obtain ⟨W, b, hJ⟩ := hI
  refine g_run_rt (f_run iv_T_ok _ _ _ _ _ _ _ (fun _ h' => iv_J A h') hj (iv_callR y_Rr_ro hK hs hJ.1 (fun β => ⟨⟨0, A 0, rfl, hJ.1.2.1 0 0 rfl⟩, iv_vs_g hsp⟩)) (fun r h' hp hF => by obtain ⟨W', -, hJ'⟩ := iv_J_c hJ hp hF; exact ⟨W', b, hJ'⟩)) (fun r h' h1 h2 => ⟨iv_rtI hq hk h2, h1⟩)
/-- a call of the reference that leaves what is told -/
theorem iv_callMU {d j : Nat} {A : Nat → Nat} {h : g_H} (hI : iv_J A h) {vs : List xa_V} {xs : List Value} (hx : xa_gS A vs xs) (hC : ∀ M : xa_M, xm_Inv M → xa_C xm_I A h d j vs M (fun _ M1 => xk_U M M1 ∧ xm_Inv M1)) : g_run d j xs h 0 0 (fun _ h' => iv_J A h') := by
  obtain ⟨W, b, hJ⟩ := hI
  obtain ⟨hH, hW, M, hM, hInv⟩ := hJ.1
  refine hC M hInv h xs hM hx _ (fun v M' x h' hv _ hM' => ?_)
  exact ⟨W, b, iv_J_m hJ hM hM' hv.1 hv.2⟩
theorem hxR_45 : iv_hxR 45 [0] := iv_hxU (Q := (3, 1, false, 0, 0, 11)) (y_Krh_ok 60) y_sr_45 (by decide +kernel) (by decide) (by decide +kernel)
theorem hxR_61 : iv_hxR 61 [] := iv_hxU (Q := (5, 1, false, 0, 0, 11)) (y_Krh_ok 60) y_sr_61 (by decide +kernel) (by decide) (by decide +kernel)
theorem hxR_62 : iv_hxR 62 [] := iv_hxU (Q := (5, 1, false, 0, 0, 11)) (y_Krh_ok 60) y_sr_62 (by decide +kernel) (by decide) (by decide +kernel)
theorem hxR_63 : iv_hxR 63 [0] := iv_hxU (Q := (7, 1, false, 0, 0, 11)) (y_Krh_ok 60) y_sr_63 (by decide +kernel) (by decide) (by decide +kernel)
theorem hxR_66 : iv_hxR 66 [0, 0] := iv_hxU (Q := (6, 1, false, 0, 0, 11)) (y_Krh_ok 60) y_sr_66 (by decide +kernel) (by decide) (by decide +kernel)
theorem hxR_72 : iv_hxR 72 [0, 0] := iv_hxU (Q := (12, 1, false, 0, 0, 11)) (y_Krh_ok 60) y_sr_72 (by decide +kernel) (by decide) (by decide +kernel)
theorem hxR_73 : iv_hxR 73 [0] := iv_hxU (Q := (2, 1, false, 0, 0, 11)) (y_Krh_ok 60) y_sr_73 (by decide +kernel) (by decide) (by decide +kernel)
theorem hxR_101 : iv_hxR 101 [0, 0, 0] := iv_hxU (Q := (6, 1, false, 0, 0, 11)) (y_Krh_ok 60) y_sr_101 (by decide +kernel) (by decide) (by decide +kernel)
theorem hxR_106 : iv_hxR 106 [0] := iv_hxU (Q := (4, 1, false, 0, 0, 11)) (y_Krh_ok 60) y_sr_106 (by decide +kernel) (by decide) (by decide +kernel)
theorem hxR_107 : iv_hxR 107 [0, 0] := iv_hxU (Q := (4, 1, false, 0, 0, 11)) (y_Krh_ok 60) y_sr_107 (by decide +kernel) (by decide) (by decide +kernel)
theorem hxR_121 : iv_hxR 121 [0, 0] := iv_hxU (Q := (3, 2, false, 0, 0, 11)) (y_Kr_ok 60) y_sr_121 (by decide +kernel) (by decide) (by decide +kernel)
theorem hxR_122 : iv_hxR 122 [0, 0] := iv_hxU (Q := (7, 1, false, 0, 0, 11)) (y_Krh_ok 60) y_sr_122 (by decide +kernel) (by decide) (by decide +kernel)
theorem hxR_129 : iv_hxR 129 [0] := iv_hxU (Q := (2, 1, false, 0, 0, 11)) (y_Krh_ok 60) y_sr_129 (by decide +kernel) (by decide) (by decide +kernel)
theorem hxR_132 : iv_hxR 132 [0] := iv_hxU (Q := (2, 1, false, 0, 0, 11)) (y_Krh_ok 60) y_sr_132 (by decide +kernel) (by decide) (by decide +kernel)
theorem hxR_137 : iv_hxR 137 [0, 0, 0] := iv_hxU (Q := (4, 2, false, 0, 0, 11)) (y_Kr_ok 60) y_sr_137 (by decide +kernel) (by decide) (by decide +kernel)
theorem hxR_140 : iv_hxR 140 [0] := iv_hxU (Q := (2, 1, false, 0, 0, 11)) (y_Krdh_ok 60) y_sr_140 (by decide +kernel) (by decide) (by decide +kernel)
theorem hxR_149 : iv_hxR 149 [] := iv_hxU (Q := (3, 1, false, 0, 0, 11)) (y_Krh_ok 60) y_sr_149 (by decide +kernel) (by decide) (by decide +kernel)
theorem hxR_151 : iv_hxR 151 [] := iv_hxU (Q := (1, 1, false, 0, 0, 11)) (y_Krdh_ok 60) y_sr_151 (by decide +kernel) (by decide) (by decide +kernel)
theorem hxR_162 : iv_hxR 162 [0, 0, 0, 0] := iv_hxU (Q := (9, 1, false, 0, 0, 11)) (y_Kr_ok 60) y_sr_162 (by decide +kernel) (by decide) (by decide +kernel)
theorem hxR_163 : iv_hxR 163 [0, 0] := iv_hxU (Q := (9, 1, false, 0, 0, 11)) (y_Kr_ok 60) y_sr_163 (by decide +kernel) (by decide) (by decide +kernel)
theorem hxR_164 : iv_hxR 164 [0, 0, 0] := iv_hxU (Q := (7, 1, false, 0, 0, 11)) (y_Krh_ok 60) y_sr_164 (by decide +kernel) (by decide) (by decide +kernel)
theorem hxR_166 : iv_hxR 166 [0, 0, 0] := iv_hxU (Q := (9, 1, false, 0, 0, 11)) (y_Krh_ok 60) y_sr_166 (by decide +kernel) (by decide) (by decide +kernel)
theorem hxR_167 : iv_hxR 167 [0] := iv_hxU (Q := (3, 1, false, 0, 0, 11)) (y_Kr_ok 60) y_sr_167 (by decide +kernel) (by decide) (by decide +kernel)
theorem hxR_179 : iv_hxR 179 [0, 1] := iv_hxU (Q := (3, 1, false, 0, 0, 11)) (y_Kr_ok 60) y_sr_179 (by decide +kernel) (by decide) (by decide +kernel)
theorem hxR_181 : iv_hxR 181 [0, 1] := iv_hxU (Q := (3, 1, false, 0, 0, 11)) (y_Kr_ok 60) y_sr_181 (by decide +kernel) (by decide) (by decide +kernel)
theorem hxR_183 : iv_hxR 183 [0] := iv_hxU (Q := (2, 1, false, 0, 0, 11)) (y_Kr_ok 60) y_sr_183 (by decide +kernel) (by decide) (by decide +kernel)
theorem hxR_185 : iv_hxR 185 [] := iv_hxU (Q := (1, 1, false, 0, 0, 11)) (y_Kr_ok 60) y_sr_185 (by decide +kernel) (by decide) (by decide +kernel)
theorem hxR_188 : iv_hxR 188 [] := iv_hxU (Q := (1, 1, false, 0, 0, 11)) (y_Kr_ok 60) y_sr_188 (by decide +kernel) (by decide) (by decide +kernel)
theorem hxR_190 : iv_hxR 190 [] := iv_hxU (Q := (1, 1, false, 0, 0, 11)) (y_Kr_ok 60) y_sr_190 (by decide +kernel) (by decide) (by decide +kernel)
theorem hxR_192 : iv_hxR 192 [0, 0, 0, 0] := iv_hxU (Q := (5, 1, false, 0, 0, 11)) (y_Kr_ok 60) y_sr_192 (by decide +kernel) (by decide) (by decide +kernel)
theorem hxR_194 : iv_hxR 194 [] := iv_hxU (Q := (2, 1, false, 0, 0, 11)) (y_Krh_ok 60) y_sr_194 (by decide +kernel) (by decide) (by decide +kernel)
theorem hxR_205 : iv_hxR 205 [0, 0] := iv_hxU (Q := (6, 1, false, 0, 0, 11)) (y_Krh_ok 60) y_sr_205 (by decide +kernel) (by decide) (by decide +kernel)
theorem hxR_207 : iv_hxR 207 [0] := iv_hxU (Q := (2, 1, false, 0, 0, 11)) (y_Kr_ok 60) y_sr_207 (by decide +kernel) (by decide) (by decide +kernel)
theorem hmR_225 : iv_hmR 225 [0] := by
  intro A h as hI hs
  obtain ⟨m1, ys, rfl, h1, hs⟩ := iv_spc hs
  obtain rfl := iv_sp0 hs
  exact g_run_rt (iv_callMU (d := 60) hI (vs := [(2, 60, 0, 0, 0), (0, 0, -2147483648, 2147483647, m1.toInt)]) (xs := [.ref (A 60), .int m1]) ⟨rfl, iv_i m1, trivial⟩ (fun M hM => ms_turn hM (fun _ _ hc => ⟨xk_cor hc, xm_Inv_cor hc hM⟩))) (fun _ _ h1 h2 => ⟨iv_rtI (j := 225) (Q := (3, 1, false, 0, 0, 12)) (by decide +kernel) (by decide) h2, h1⟩)
theorem hmR_232 : iv_hmR 232 [] := by
  intro A h as hI hs
  obtain rfl := iv_sp0 hs
  exact g_run_rt (iv_callMU (d := 60) hI (vs := [(2, 60, 0, 0, 0)]) (xs := [.ref (A 60)]) ⟨rfl, trivial⟩ (fun M hM => ms_turning hM (fun _ _ hc => ⟨xk_cor hc, xm_Inv_cor hc hM⟩))) (fun _ _ h1 h2 => ⟨iv_rtI (j := 232) (Q := (5, 1, false, 0, 0, 12)) (by decide +kernel) (by decide) h2, h1⟩)
theorem hmR_233 : iv_hmR 233 [] := by
  intro A h as hI hs
  obtain rfl := iv_sp0 hs
  exact g_run_rt (iv_callMU (d := 60) hI (vs := [(2, 60, 0, 0, 0)]) (xs := [.ref (A 60)]) ⟨rfl, trivial⟩ (fun M hM => ms_jams hM (fun _ _ hc => ⟨xk_cor hc, xm_Inv_cor hc hM⟩))) (fun _ _ h1 h2 => ⟨iv_rtI (j := 233) (Q := (5, 1, false, 0, 0, 12)) (by decide +kernel) (by decide) h2, h1⟩)
theorem hmR_234 : iv_hmR 234 [0] := by
  intro A h as hI hs
  obtain ⟨m1, ys, rfl, h1, hs⟩ := iv_spc hs
  obtain rfl := iv_sp0 hs
  exact g_run_rt (iv_callMU (d := 60) hI (vs := [(2, 60, 0, 0, 0), (0, 0, -2147483648, 2147483647, m1.toInt)]) (xs := [.ref (A 60), .int m1]) ⟨rfl, iv_i m1, trivial⟩ (fun M hM => ms_gives hM (fun _ _ hc => ⟨xk_cor hc, xm_Inv_cor hc hM⟩))) (fun _ _ h1 h2 => ⟨iv_rtI (j := 234) (Q := (6, 1, false, 0, 0, 12)) (by decide +kernel) (by decide) h2, h1⟩)
theorem hmR_272 : iv_hmR 272 [0, 0] := by
  intro A h as hI hs
  obtain ⟨m1, ys, rfl, h1, hs⟩ := iv_spc hs
  obtain ⟨m2, ys, rfl, h2, hs⟩ := iv_spc hs
  obtain rfl := iv_sp0 hs
  exact g_run_rt (iv_callMU (d := 60) hI (vs := [(2, 60, 0, 0, 0), (0, 0, -2147483648, 2147483647, m1.toInt), (0, 0, -2147483648, 2147483647, m2.toInt)]) (xs := [.ref (A 60), .int m1, .int m2]) ⟨rfl, iv_i m1, iv_i m2, trivial⟩ (fun M hM => ms_show hM (fun _ _ hc => ⟨xk_cor hc, xm_Inv_cor hc hM⟩))) (fun _ _ h1 h2 => ⟨iv_rtI (j := 272) (Q := (4, 1, false, 0, 0, 12)) (by decide +kernel) (by decide) h2, h1⟩)
theorem hmR_274 : iv_hmR 274 [0, 0] := by
  intro A h as hI hs
  obtain ⟨m1, ys, rfl, h1, hs⟩ := iv_spc hs
  obtain ⟨m2, ys, rfl, h2, hs⟩ := iv_spc hs
  obtain rfl := iv_sp0 hs
  exact g_run_rt (iv_callMU (d := 60) hI (vs := [(2, 60, 0, 0, 0), (0, 0, -2147483648, 2147483647, m1.toInt), (0, 0, -2147483648, 2147483647, m2.toInt)]) (xs := [.ref (A 60), .int m1, .int m2]) ⟨rfl, iv_i m1, iv_i m2, trivial⟩ (fun M hM => ms_together hM (fun _ _ hc => ⟨xk_cor hc, xm_Inv_cor hc hM⟩))) (fun _ _ h1 h2 => ⟨iv_rtI (j := 274) (Q := (10, 1, false, 0, 0, 12)) (by decide +kernel) (by decide) h2, h1⟩)
theorem hmR_235 : iv_hmR 235 [0] := by
  intro A h as hI hs
  obtain ⟨m1, ys, rfl, h1, hs⟩ := iv_spc hs
  obtain rfl := iv_sp0 hs
  exact g_run_rt (iv_callMU (d := 60) hI (vs := [(2, 60, 0, 0, 0), (0, 0, -2147483648, 2147483647, m1.toInt)]) (xs := [.ref (A 60), .int m1]) ⟨rfl, iv_i m1, trivial⟩ (fun M hM => ms_way hM (fun _ _ hc => ⟨xk_cor hc, xm_Inv_cor hc hM⟩))) (fun _ _ h1 h2 => ⟨iv_rtI (j := 235) (Q := (3, 1, false, 0, 0, 12)) (by decide +kernel) (by decide) h2, h1⟩)
theorem hmR_245 : iv_hmR 245 [0, 0, 0] := by
  intro A h as hI hs
  obtain ⟨m1, ys, rfl, h1, hs⟩ := iv_spc hs
  obtain ⟨m2, ys, rfl, h2, hs⟩ := iv_spc hs
  obtain ⟨m3, ys, rfl, h3, hs⟩ := iv_spc hs
  obtain rfl := iv_sp0 hs
  exact g_run_rt (iv_callMU (d := 60) hI (vs := [(2, 60, 0, 0, 0), (0, 0, -2147483648, 2147483647, m1.toInt), (0, 0, -2147483648, 2147483647, m2.toInt), (0, 0, -2147483648, 2147483647, m3.toInt)]) (xs := [.ref (A 60), .int m1, .int m2, .int m3]) ⟨rfl, iv_i m1, iv_i m2, iv_i m3, trivial⟩ (fun M hM => ms_sure xm_fd_ok hM (fun _ _ hc => ⟨xk_cor hc, xm_Inv_cor hc hM⟩))) (fun _ _ h1 h2 => ⟨iv_rtI (j := 245) (Q := (10, 1, false, 0, 0, 12)) (by decide +kernel) (by decide) h2, h1⟩)
theorem hmR_247 : iv_hmR 247 [0] := by
  intro A h as hI hs
  obtain ⟨m1, ys, rfl, h1, hs⟩ := iv_spc hs
  obtain rfl := iv_sp0 hs
  exact g_run_rt (iv_callMU (d := 60) hI (vs := [(2, 60, 0, 0, 0), (0, 0, -2147483648, 2147483647, m1.toInt)]) (xs := [.ref (A 60), .int m1]) ⟨rfl, iv_i m1, trivial⟩ (fun M hM => ms_may xm_fd_ok hM (fun _ _ hc => ⟨xk_cor hc, xm_Inv_cor hc hM⟩))) (fun _ _ h1 h2 => ⟨iv_rtI (j := 247) (Q := (4, 1, false, 0, 0, 12)) (by decide +kernel) (by decide) h2, h1⟩)
theorem hmR_249 : iv_hmR 249 [0, 0] := by
  intro A h as hI hs
  obtain ⟨m1, ys, rfl, h1, hs⟩ := iv_spc hs
  obtain ⟨m2, ys, rfl, h2, hs⟩ := iv_spc hs
  obtain rfl := iv_sp0 hs
  exact g_run_rt (iv_callMU (d := 60) hI (vs := [(2, 60, 0, 0, 0), (0, 0, -2147483648, 2147483647, m1.toInt), (0, 0, -2147483648, 2147483647, m2.toInt)]) (xs := [.ref (A 60), .int m1, .int m2]) ⟨rfl, iv_i m1, iv_i m2, trivial⟩ (fun M hM => ms_next xm_fd_ok hM (fun _ _ hc => ⟨xk_cor hc, xm_Inv_cor hc hM⟩))) (fun _ _ h1 h2 => ⟨iv_rtI (j := 249) (Q := (9, 1, false, 0, 0, 12)) (by decide +kernel) (by decide) h2, h1⟩)
theorem ms_shopK {A : Nat → Nat} {h0 : g_H} {d : Nat} {M : xa_M} {post : Option xa_V → xa_M → Prop} {l1 u1 l2 u2 : Int} {a b : Int} (hI : xm_Inv M) (k : ∀ (o : Option xa_V) (M1 : xa_M), xk_U M M1 → xm_Inv M1 → post o M1) : xa_C xm_I A h0 (d + 2) 256 [(2, 60, 0, 0, 0), (0, 0, l1, u1, a), (0, 0, l2, u2, b)] M post := by
  refine xa_C_arg [(2, 60, 0, 0, 0), (0, 0, (-2147483648), 2147483647, a), (0, 0, (-2147483648), 2147483647, b)] (xa_svR (xa_svI (fun _ _ _ _ => by omega) (xa_svI (fun _ _ _ _ => by omega) xa_sv0))) ?_
  refine xa_meth (Q0 := (3, 2, false, 0, 0, 12)) (by decide +kernel) ⟨rfl, rfl⟩ (full := s_c_256) rfl rfl ?_
  intro hM hv Q hgo
  have b0 := xm_f0 hM
  have b6 := xm_f6 hM
  refine hgo.1 30 [] 0 _ _ _ ?_
  show xa_C xm_I A h0 _ 214 [(0, 0, (-2147483648), 2147483647, a), (0, 0, 10, 10, 10), (0, 0, 400, 400, 400)] (xa_up M 60 21 0) _
  refine ct_in ?_ ?_
  · intro (i1 : 10 ≤ a ∧ a ≤ 400)
    show xa_C xm_I A h0 _ 214 [(0, 0, (-2147483648), 2147483647, b), (0, 0, (-2147483648), 2147483647, a), (0, 0, 400, 400, 400)] (xa_up M 60 21 0) _
    refine ct_in ?_ ?_
    · intro (i2 : a ≤ b ∧ b ≤ 400)
      refine And.intro ?_ ?_
      · intro (c3 : (xa_w32 (b - a)) ≤ 200)
        refine And.intro (show 10 ≤ a ∧ a ≤ 400 by omega) ?_
        refine And.intro (show 10 ≤ b ∧ b ≤ 400 by omega) ?_
        show post (some (0, 0, 1, 1, 1)) (xa_up (xa_up (xa_up M 60 21 0) 60 15 a) 60 16 b)
        refine k _ _ (fun q j hq => by have hq2 := xk_eq hq; exact (xa_up_ne (by omega)).trans ((xa_up_ne (by omega)).trans ((xa_up_ne (by omega)).trans (rfl)))) (xm_Inv_b (M := M) (fun j => by simp [xa_up]) (fun j => by simp [xa_up]) hI (fun w w0 w1 => ?_) (fun m m0 m1 => ?_) (fun p p0 p1 => ?_) ?_)
        · have h := hI.1 w w0 (by simp [xa_up] at w1; omega)
          simp [xa_up]
          exact h
        · have h := hI.2.1 m m0 (by simp [xa_up] at m1; omega)
          simp [xa_up]
          exact h
        · have h := hI.2.2.1 p p0 (by simp [xa_up] at p1; omega)
          simp [xa_up]
          exact h
        · simp [xa_up]
          omega
      · intro (c3 : 200 < (xa_w32 (b - a)))
        show post (some (0, 0, 0, 0, 0)) (xa_up M 60 21 0)
        exact k _ _ (xk_cor (xm_cor_f (by omega) xm_cor_r)) (xm_Inv_cor (xm_cor_f (by omega) xm_cor_r) hI)
    · intro (i2 : ¬ (a ≤ b ∧ b ≤ 400))
      show post (some (0, 0, 0, 0, 0)) (xa_up M 60 21 0)
      exact k _ _ (xk_cor (xm_cor_f (by omega) xm_cor_r)) (xm_Inv_cor (xm_cor_f (by omega) xm_cor_r) hI)
  · intro (i1 : ¬ (10 ≤ a ∧ a ≤ 400))
    show post (some (0, 0, 0, 0, 0)) (xa_up M 60 21 0)
    exact k _ _ (xk_cor (xm_cor_f (by omega) xm_cor_r)) (xm_Inv_cor (xm_cor_f (by omega) xm_cor_r) hI)
theorem hmR_256 : iv_hmR 256 [0, 0] := by
  intro A h as hI hs
  obtain ⟨m1, ys, rfl, h1, hs⟩ := iv_spc hs
  obtain ⟨m2, ys, rfl, h2, hs⟩ := iv_spc hs
  obtain rfl := iv_sp0 hs
  exact g_run_rt (iv_callMU (d := 60) hI (vs := [(2, 60, 0, 0, 0), (0, 0, -2147483648, 2147483647, m1.toInt), (0, 0, -2147483648, 2147483647, m2.toInt)]) (xs := [.ref (A 60), .int m1, .int m2]) ⟨rfl, iv_i m1, iv_i m2, trivial⟩ (fun M hM => ms_shopK hM (fun _ _ h1 h2 => ⟨h1, h2⟩))) (fun _ _ h1 h2 => ⟨iv_rtI (j := 256) (Q := (3, 2, false, 0, 0, 12)) (by decide +kernel) (by decide) h2, h1⟩)
theorem hmR_257 : iv_hmR 257 [0, 0] := by
  intro A h as hI hs
  obtain ⟨m1, ys, rfl, h1, hs⟩ := iv_spc hs
  obtain ⟨m2, ys, rfl, h2, hs⟩ := iv_spc hs
  obtain rfl := iv_sp0 hs
  exact g_run_rt (iv_callMU (d := 60) hI (vs := [(2, 60, 0, 0, 0), (0, 0, -2147483648, 2147483647, m1.toInt), (0, 0, -2147483648, 2147483647, m2.toInt)]) (xs := [.ref (A 60), .int m1, .int m2]) ⟨rfl, iv_i m1, iv_i m2, trivial⟩ (fun M hM => ms_trains hM (fun _ _ hc => ⟨xk_cor hc, xm_Inv_cor hc hM⟩))) (fun _ _ h1 h2 => ⟨iv_rtI (j := 257) (Q := (10, 1, false, 0, 0, 12)) (by decide +kernel) (by decide) h2, h1⟩)
theorem hmR_259 : iv_hmR 259 [0] := by
  intro A h as hI hs
  obtain ⟨m1, ys, rfl, h1, hs⟩ := iv_spc hs
  obtain rfl := iv_sp0 hs
  exact g_run_rt (iv_callMU (d := 60) hI (vs := [(2, 60, 0, 0, 0), (0, 0, -2147483648, 2147483647, m1.toInt)]) (xs := [.ref (A 60), .int m1]) ⟨rfl, iv_i m1, trivial⟩ (fun M hM => ms_nearest hM (fun _ _ hc => ⟨xk_cor hc, xm_Inv_cor hc hM⟩))) (fun _ _ h1 h2 => ⟨iv_rtI (j := 259) (Q := (10, 1, false, 0, 0, 12)) (by decide +kernel) (by decide) h2, h1⟩)
theorem hmR_261 : iv_hmR 261 [0] := by
  intro A h as hI hs
  obtain ⟨m1, ys, rfl, h1, hs⟩ := iv_spc hs
  obtain rfl := iv_sp0 hs
  exact g_run_rt (iv_callMU (d := 60) hI (vs := [(2, 60, 0, 0, 0), (0, 0, -2147483648, 2147483647, m1.toInt)]) (xs := [.ref (A 60), .int m1]) ⟨rfl, iv_i m1, trivial⟩ (fun M hM => ms_common hM (fun _ _ hc => ⟨xk_cor hc, xm_Inv_cor hc hM⟩))) (fun _ _ h1 h2 => ⟨iv_rtI (j := 261) (Q := (6, 1, false, 0, 0, 12)) (by decide +kernel) (by decide) h2, h1⟩)
theorem ms_axleK {A : Nat → Nat} {h0 : g_H} {d : Nat} {M : xa_M} {post : Option xa_V → xa_M → Prop} {l1 u1 l2 u2 l3 u3 : Int} {a b c : Int} (hI : xm_Inv M) (k : ∀ (o : Option xa_V) (M1 : xa_M), xm_iz M M1 → post o M1) : xa_C xm_I A h0 (d + 3) 262 [(2, 60, 0, 0, 0), (0, 0, l1, u1, a), (0, 0, l2, u2, b), (0, 0, l3, u3, c)] M post := by
  refine xa_C_arg [(2, 60, 0, 0, 0), (0, 0, (-2147483648), 2147483647, a), (0, 0, (-2147483648), 2147483647, b), (0, 0, (-2147483648), 2147483647, c)] (xa_svR (xa_svI (fun _ _ _ _ => by omega) (xa_svI (fun _ _ _ _ => by omega) (xa_svI (fun _ _ _ _ => by omega) xa_sv0)))) ?_
  refine xa_meth (Q0 := (4, 2, false, 0, 0, 12)) (by decide +kernel) ⟨rfl, rfl⟩ (full := s_c_262) rfl rfl ?_
  intro hM hv Q hgo
  refine hgo.1 32 [] 0 _ _ _ ?_
  show xa_C xm_I A h0 _ 215 [(0, 0, (-2147483648), 2147483647, a)] (xa_up M 60 21 0) _
  refine ct_isAxle ?_ ?_
  · intro (i1 : 0 ≤ a ∧ a ≤ 9)
    show xa_C xm_I A h0 _ 214 [(0, 0, (-2147483648), 2147483647, b), (0, 0, (-500), (-500), (-500)), (0, 0, 500, 500, 500)] (xa_up M 60 21 0) _
    refine ct_in ?_ ?_
    · intro (i2 : (-500) ≤ b ∧ b ≤ 500)
      show xa_C xm_I A h0 _ 214 [(0, 0, (-2147483648), 2147483647, c), (0, 0, (-500), (-500), (-500)), (0, 0, 500, 500, 500)] (xa_up M 60 21 0) _
      refine ct_in ?_ ?_
      · intro (i3 : (-500) ≤ c ∧ c ≤ 500)
        refine And.intro (show 0 ≤ a ∧ a < 10 by omega) ?_
        refine And.intro (show (-500) ≤ b ∧ b ≤ 500 by omega) ?_
        refine And.intro (show 0 ≤ a ∧ a < 10 by omega) ?_
        refine And.intro (show (-500) ≤ c ∧ c ≤ 500 by omega) ?_
        show post (some (0, 0, 1, 1, 1)) (xa_up (xa_up (xa_up M 60 21 0) 68 a b) 69 a c)
        exact k _ _ (xm_iz_u rfl (xm_iz_u rfl (xm_iz_u rfl xm_iz_r)))
      · intro (i3 : ¬ ((-500) ≤ c ∧ c ≤ 500))
        show post (some (0, 0, 0, 0, 0)) (xa_up M 60 21 0)
        exact k _ _ (xm_iz_u rfl xm_iz_r)
    · intro (i2 : ¬ ((-500) ≤ b ∧ b ≤ 500))
      show post (some (0, 0, 0, 0, 0)) (xa_up M 60 21 0)
      exact k _ _ (xm_iz_u rfl xm_iz_r)
  · intro (i1 : ¬ (0 ≤ a ∧ a ≤ 9))
    show post (some (0, 0, 0, 0, 0)) (xa_up M 60 21 0)
    exact k _ _ (xm_iz_u rfl xm_iz_r)
theorem hmR_262 : iv_hmR 262 [0, 0, 0] := by
  intro A h as hI hs
  obtain ⟨m1, ys, rfl, h1, hs⟩ := iv_spc hs
  obtain ⟨m2, ys, rfl, h2, hs⟩ := iv_spc hs
  obtain ⟨m3, ys, rfl, h3, hs⟩ := iv_spc hs
  obtain rfl := iv_sp0 hs
  exact g_run_rt (iv_callMU (d := 60) hI (vs := [(2, 60, 0, 0, 0), (0, 0, -2147483648, 2147483647, m1.toInt), (0, 0, -2147483648, 2147483647, m2.toInt), (0, 0, -2147483648, 2147483647, m3.toInt)]) (xs := [.ref (A 60), .int m1, .int m2, .int m3]) ⟨rfl, iv_i m1, iv_i m2, iv_i m3, trivial⟩ (fun M hM => ms_axleK hM (fun _ _ hc => ⟨xm_iz_k hc, xm_Inv_is (xm_iz_is hc) hM⟩))) (fun _ _ h1 h2 => ⟨iv_rtI (j := 262) (Q := (4, 2, false, 0, 0, 12)) (by decide +kernel) (by decide) h2, h1⟩)
theorem hmR_263 : iv_hmR 263 [0] := by
  intro A h as hI hs
  obtain ⟨m1, ys, rfl, h1, hs⟩ := iv_spc hs
  obtain rfl := iv_sp0 hs
  exact g_run_rt (iv_callMU (d := 60) hI (vs := [(2, 60, 0, 0, 0), (0, 0, -2147483648, 2147483647, m1.toInt)]) (xs := [.ref (A 60), .int m1]) ⟨rfl, iv_i m1, trivial⟩ (fun M hM => ms_room hM (fun _ _ hc => ⟨xk_cor hc, xm_Inv_cor hc hM⟩))) (fun _ _ h1 h2 => ⟨iv_rtI (j := 263) (Q := (16, 1, false, 0, 0, 12)) (by decide +kernel) (by decide) h2, h1⟩)
theorem hmR_266 : iv_hmR 266 [] := by
  intro A h as hI hs
  obtain rfl := iv_sp0 hs
  exact g_run_rt (iv_callMU (d := 60) hI (vs := [(2, 60, 0, 0, 0)]) (xs := [.ref (A 60)]) ⟨rfl, trivial⟩ (fun M hM => ms_pierced hM (fun _ _ hc => ⟨xk_cor hc, xm_Inv_cor hc hM⟩))) (fun _ _ h1 h2 => ⟨iv_rtI (j := 266) (Q := (6, 1, false, 0, 0, 12)) (by decide +kernel) (by decide) h2, h1⟩)
theorem hmR_267 : iv_hmR 267 [] := by
  intro A h as hI hs
  obtain rfl := iv_sp0 hs
  exact g_run_rt (iv_callMU (d := 60) hI (vs := [(2, 60, 0, 0, 0)]) (xs := [.ref (A 60)]) ⟨rfl, trivial⟩ (fun M hM => ms_depths hM (fun _ _ hc => ⟨xk_cor hc, xm_Inv_cor hc hM⟩))) (fun _ _ h1 h2 => ⟨iv_rtI (j := 267) (Q := (4, 1, false, 0, 0, 12)) (by decide +kernel) (by decide) h2, h1⟩)
theorem hmR_270 : iv_hmR 270 [0, 0, 0, 0] := by
  intro A h as hI hs
  obtain ⟨m1, ys, rfl, h1, hs⟩ := iv_spc hs
  obtain ⟨m2, ys, rfl, h2, hs⟩ := iv_spc hs
  obtain ⟨m3, ys, rfl, h3, hs⟩ := iv_spc hs
  obtain ⟨m4, ys, rfl, h4, hs⟩ := iv_spc hs
  obtain rfl := iv_sp0 hs
  exact g_run_rt (iv_callMU (d := 60) hI (vs := [(2, 60, 0, 0, 0), (0, 0, -2147483648, 2147483647, m1.toInt), (0, 0, -2147483648, 2147483647, m2.toInt), (0, 0, -2147483648, 2147483647, m3.toInt), (0, 0, -2147483648, 2147483647, m4.toInt)]) (xs := [.ref (A 60), .int m1, .int m2, .int m3, .int m4]) ⟨rfl, iv_i m1, iv_i m2, iv_i m3, iv_i m4, trivial⟩ (fun M hM => ms_slot hM (fun _ _ hc => ⟨xk_cor hc, xm_Inv_cor hc hM⟩))) (fun _ _ h1 h2 => ⟨iv_rtI (j := 270) (Q := (9, 1, false, 0, 0, 12)) (by decide +kernel) (by decide) h2, h1⟩)
theorem ms_unevenK {A : Nat → Nat} {h0 : g_H} {d : Nat} {M : xa_M} {post : Option xa_V → xa_M → Prop} {l1 u1 l2 u2 : Int} {x1 x2 : Int} (hI : xm_Inv M) (k : ∀ (o : Option xa_V) (M1 : xa_M), xm_iz M M1 → post o M1) : xa_C xm_I A h0 (d + 4) 271 [(2, 60, 0, 0, 0), (0, 0, l1, u1, x1), (0, 0, l2, u2, x2)] M post := by
  refine xa_C_arg [(2, 60, 0, 0, 0), (0, 0, (-2147483648), 2147483647, x1), (0, 0, (-2147483648), 2147483647, x2)] (xa_svR (xa_svI (fun _ _ _ _ => by omega) (xa_svI (fun _ _ _ _ => by omega) xa_sv0))) ?_
  refine xa_meth (Q0 := (9, 1, false, 0, 0, 12)) (by decide +kernel) ⟨rfl, rfl⟩ (full := s_c_271) rfl rfl ?_
  intro hM hv Q hgo
  have loop0 : 1 ≤ x1 → x1 ≤ 1000 → 1 ≤ x2 → x2 ≤ 1000 → ∀ (n : Nat) (x6 x4 x3 : Int) (M1 : xa_M), 1 ≤ x6 ∧ x6 ≤ 100 → 0 ≤ x3 ∧ x3 ≤ 99 → 1 ≤ x2 ∧ x2 ≤ 1000 → 1 ≤ x1 ∧ x1 ≤ 1000 → xm_iz M M1 → 100 - x6 < (n : Int) → Q 49 [(6, (0, 0, 1, 100, x6)), (4, (1, 0, (-9223372036854775808), 9223372036854775807, x4)), (3, (0, 0, 0, 99, x3)), (2, (0, 0, 1, 1000, x2)), (1, (0, 0, 1, 1000, x1)), (0, (2, 60, 0, 0, 0))] [] M1 := by
    intro u0 u1 v0 v1
    intro n
    induction n with
    | zero => intro x6 x4 x3 M1 b6 b3 f2 f1 hc hms; omega
    | succ n ih0 =>
      intro x6 x4 x3 M1 b6 b3 f2 f1 hc hms0
      refine hgo.1 44 [49] 49 _ _ _ ?_
      refine And.intro ?_ ?_
      · intro (c1 : 100 ≤ x6)
        show xa_C xm_I A h0 _ 230 [(2, 60, 0, 0, 0), (1, 0, 100, 199, 100 + x3), (1, 0, 1, 100, 100 - x3)] (xa_up M1 60 20 0) _
        refine ct_tellPart (n := 0) (by first | rfl | (simp [xa_up]; done)) (by decide) (by decide) (by decide) (by omega) (fun g2 eg2 pg2 qg2 => ?_)
        show post (some (0, 0, 0, 99, x3)) (xa_up (xa_up (xa_up (xa_up (xa_up M1 60 20 0) 74 0 ((100 + x3).tdiv g2)) 60 20 1) 74 1 ((100 - x3).tdiv g2)) 60 20 2)
        exact k _ _ (xm_iz_u rfl (xm_iz_u rfl (xm_iz_u rfl (xm_iz_u rfl (xm_iz_u rfl hc)))))
      · intro (c1 : x6 < 100)
        show xa_C xm_I A h0 _ 56 [(1, 0, (-98899), 200000, ((100 + x6) * x2) - ((100 - x6) * x1))] M1 _
        refine ct_absb 200000 (by decide) (by decide) (by decide) (fun a3 ea3 => ?_)
        refine And.intro ?_ ?_
        · intro (c4 : (a3 * (100 - x3)) < (xa_w64 (x4 * (100 - x6))))
          show Q 49 [(6, (0, 0, 2, 101, x6 + 1)), (4, (1, 0, 0, 200000, a3)), (3, (0, 0, 1, 100, x6)), (7, (1, 0, 0, 200000, a3)), (2, (0, 0, 1, 1000, x2)), (1, (0, 0, 1, 1000, x1)), (0, (2, 60, 0, 0, 0))] [] M1
          refine hgo.2.1 49 _ [(6, (0, 0, 1, 100, x6 + 1)), (4, (1, 0, (-9223372036854775808), 9223372036854775807, a3)), (3, (0, 0, 0, 99, x6)), (2, (0, 0, 1, 1000, x2)), (1, (0, 0, 1, 1000, x1)), (0, (2, 60, 0, 0, 0))] _ _ (xa_subI rfl rfl (fun _ _ _ _ => by omega) (xa_subL rfl rfl (fun _ _ _ _ => by omega) (xa_subI rfl rfl (fun _ _ _ _ => by omega) (xa_subI rfl rfl (fun _ _ _ _ => by omega) (xa_subI rfl rfl (fun _ _ _ _ => by omega) (xa_subR rfl xa_sub0)))))) ?_
          exact ih0 (x6 + 1) a3 x6 M1 (by omega) (by omega) (by omega) (by omega) hc (by omega)
        · intro (c4 : (xa_w64 (x4 * (100 - x6))) ≤ (a3 * (100 - x3)))
          show Q 49 [(6, (0, 0, 2, 101, x6 + 1)), (7, (1, 0, 0, 200000, a3)), (4, (1, 0, (-9223372036854775808), 9223372036854775807, x4)), (3, (0, 0, 0, 99, x3)), (2, (0, 0, 1, 1000, x2)), (1, (0, 0, 1, 1000, x1)), (0, (2, 60, 0, 0, 0))] [] M1
          refine hgo.2.1 49 _ [(6, (0, 0, 1, 100, x6 + 1)), (4, (1, 0, (-9223372036854775808), 9223372036854775807, x4)), (3, (0, 0, 0, 99, x3)), (2, (0, 0, 1, 1000, x2)), (1, (0, 0, 1, 1000, x1)), (0, (2, 60, 0, 0, 0))] _ _ (xa_subI rfl rfl (fun _ _ _ _ => by omega) (xa_subL rfl rfl (fun _ _ _ _ => by omega) (xa_subI rfl rfl (fun _ _ _ _ => by omega) (xa_subI rfl rfl (fun _ _ _ _ => by omega) (xa_subI rfl rfl (fun _ _ _ _ => by omega) (xa_subR rfl xa_sub0)))))) ?_
          exact ih0 (x6 + 1) x4 x3 M1 (by omega) (by omega) (by omega) (by omega) hc (by omega)
  refine hgo.1 22 [34] 0 _ _ _ ?_
  show xa_C xm_I A h0 _ 214 [(0, 0, (-2147483648), 2147483647, x1), (0, 0, 1, 1, 1), (0, 0, 1000, 1000, 1000)] (xa_up M 60 21 0) _
  refine ct_in ?_ ?_
  · intro (i1 : 1 ≤ x1 ∧ x1 ≤ 1000)
    show xa_C xm_I A h0 _ 214 [(0, 0, (-2147483648), 2147483647, x2), (0, 0, 1, 1, 1), (0, 0, 1000, 1000, 1000)] (xa_up M 60 21 0) _
    refine ct_in ?_ ?_
    · intro (i2 : 1 ≤ x2 ∧ x2 ≤ 1000)
      refine And.intro ?_ ?_
      · intro (c3 : x2 ≤ x1)
        show Q 34 [(0, (2, 60, 0, 0, 0)), (1, (0, 0, (-2147483648), 2147483647, x1)), (2, (0, 0, (-2147483648), 2147483647, x2))] [] (xa_up M 60 21 0)
        refine hgo.2.1 34 _ [(0, (2, 60, 0, 0, 0)), (1, (0, 0, 1, 1000, x1)), (2, (0, 0, 1, 1000, x2))] _ _ (xa_subR rfl (xa_subI rfl rfl (fun _ _ _ _ => by omega) (xa_subI rfl rfl (fun _ _ _ _ => by omega) xa_sub0))) ?_
        have hb1 : 1 ≤ x1 ∧ x1 ≤ 1000 := by omega
        have hb2 : 1 ≤ x2 ∧ x2 ≤ 1000 := by omega
        refine hgo.1 16 [49] 34 _ _ _ ?_
        show Q 49 [(6, (0, 0, 1, 1, 1)), (4, (1, 0, (-99900), 99900, 100 * (x1 - x2))), (3, (0, 0, 0, 0, 0)), (0, (2, 60, 0, 0, 0)), (1, (0, 0, 1, 1000, x1)), (2, (0, 0, 1, 1000, x2))] [] (xa_up M 60 21 0)
        refine hgo.2.1 49 _ [(6, (0, 0, 1, 100, 1)), (4, (1, 0, (-9223372036854775808), 9223372036854775807, 100 * (x1 - x2))), (3, (0, 0, 0, 99, 0)), (2, (0, 0, 1, 1000, x2)), (1, (0, 0, 1, 1000, x1)), (0, (2, 60, 0, 0, 0))] _ _ (xa_subI rfl rfl (fun _ _ _ _ => by omega) (xa_subL rfl rfl (fun _ _ _ _ => by omega) (xa_subI rfl rfl (fun _ _ _ _ => by omega) (xa_subI rfl rfl (fun _ _ _ _ => by omega) (xa_subI rfl rfl (fun _ _ _ _ => by omega) (xa_subR rfl xa_sub0)))))) ?_
        exact loop0 hb1.1 hb1.2 hb2.1 hb2.2 100 1 (100 * (x1 - x2)) 0 (xa_up M 60 21 0) (by omega) (by omega) (by omega) (by omega) (xm_iz_u rfl xm_iz_r) (by omega)
      · intro (c3 : x1 < x2)
        show post (some (0, 0, (-1), (-1), (-1))) (xa_up M 60 21 0)
        exact k _ _ (xm_iz_u rfl xm_iz_r)
    · intro (i2 : ¬ (1 ≤ x2 ∧ x2 ≤ 1000))
      show post (some (0, 0, (-1), (-1), (-1))) (xa_up M 60 21 0)
      exact k _ _ (xm_iz_u rfl xm_iz_r)
  · intro (i1 : ¬ (1 ≤ x1 ∧ x1 ≤ 1000))
    show post (some (0, 0, (-1), (-1), (-1))) (xa_up M 60 21 0)
    exact k _ _ (xm_iz_u rfl xm_iz_r)
theorem hmR_271 : iv_hmR 271 [0, 0] := by
  intro A h as hI hs
  obtain ⟨m1, ys, rfl, h1, hs⟩ := iv_spc hs
  obtain ⟨m2, ys, rfl, h2, hs⟩ := iv_spc hs
  obtain rfl := iv_sp0 hs
  exact g_run_rt (iv_callMU (d := 60) hI (vs := [(2, 60, 0, 0, 0), (0, 0, -2147483648, 2147483647, m1.toInt), (0, 0, -2147483648, 2147483647, m2.toInt)]) (xs := [.ref (A 60), .int m1, .int m2]) ⟨rfl, iv_i m1, iv_i m2, trivial⟩ (fun M hM => ms_unevenK hM (fun _ _ hc => ⟨xm_iz_k hc, xm_Inv_is (xm_iz_is hc) hM⟩))) (fun _ _ h1 h2 => ⟨iv_rtI (j := 271) (Q := (9, 1, false, 0, 0, 12)) (by decide +kernel) (by decide) h2, h1⟩)
theorem hmR_275 : iv_hmR 275 [0, 0, 0] := by
  intro A h as hI hs
  obtain ⟨m1, ys, rfl, h1, hs⟩ := iv_spc hs
  obtain ⟨m2, ys, rfl, h2, hs⟩ := iv_spc hs
  obtain ⟨m3, ys, rfl, h3, hs⟩ := iv_spc hs
  obtain rfl := iv_sp0 hs
  exact g_run_rt (iv_callMU (d := 60) hI (vs := [(2, 60, 0, 0, 0), (0, 0, -2147483648, 2147483647, m1.toInt), (0, 0, -2147483648, 2147483647, m2.toInt), (0, 0, -2147483648, 2147483647, m3.toInt)]) (xs := [.ref (A 60), .int m1, .int m2, .int m3]) ⟨rfl, iv_i m1, iv_i m2, iv_i m3, trivial⟩ (fun M hM => ms_near hM (fun _ _ hc => ⟨xk_cor hc, xm_Inv_cor hc hM⟩))) (fun _ _ h1 h2 => ⟨iv_rtI (j := 275) (Q := (5, 1, false, 0, 0, 12)) (by decide +kernel) (by decide) h2, h1⟩)
theorem hmR_277 : iv_hmR 277 [0, 0, 0] := by
  intro A h as hI hs
  obtain ⟨m1, ys, rfl, h1, hs⟩ := iv_spc hs
  obtain ⟨m2, ys, rfl, h2, hs⟩ := iv_spc hs
  obtain ⟨m3, ys, rfl, h3, hs⟩ := iv_spc hs
  obtain rfl := iv_sp0 hs
  exact g_run_rt (iv_callMU (d := 60) hI (vs := [(2, 60, 0, 0, 0), (0, 0, -2147483648, 2147483647, m1.toInt), (0, 0, -2147483648, 2147483647, m2.toInt), (0, 0, -2147483648, 2147483647, m3.toInt)]) (xs := [.ref (A 60), .int m1, .int m2, .int m3]) ⟨rfl, iv_i m1, iv_i m2, iv_i m3, trivial⟩ (fun M hM => ms_off hM (fun _ _ hc => ⟨xk_cor hc, xm_Inv_cor hc hM⟩))) (fun _ _ h1 h2 => ⟨iv_rtI (j := 277) (Q := (6, 1, false, 0, 0, 12)) (by decide +kernel) (by decide) h2, h1⟩)
theorem hmR_278 : iv_hmR 278 [0] := by
  intro A h as hI hs
  obtain ⟨m1, ys, rfl, h1, hs⟩ := iv_spc hs
  obtain rfl := iv_sp0 hs
  exact g_run_rt (iv_callMU (d := 60) hI (vs := [(2, 60, 0, 0, 0), (0, 0, -2147483648, 2147483647, m1.toInt)]) (xs := [.ref (A 60), .int m1]) ⟨rfl, iv_i m1, trivial⟩ (fun M hM => ms_meets hM (fun _ _ hc => ⟨xk_cor hc, xm_Inv_cor hc hM⟩))) (fun _ _ h1 h2 => ⟨iv_rtI (j := 278) (Q := (7, 1, false, 0, 0, 12)) (by decide +kernel) (by decide) h2, h1⟩)
theorem ms_dialK {A : Nat → Nat} {h0 : g_H} {d : Nat} {M : xa_M} {post : Option xa_V → xa_M → Prop} {l1 u1 l2 u2 : Int} {a b : Int} (hb : 0 ≤ b ∧ b ≤ 1) (hI : xm_Inv M) (k : ∀ (o : Option xa_V) (M1 : xa_M), xm_iz M M1 → post o M1) : xa_C xm_I A h0 (d + 2) 283 [(2, 60, 0, 0, 0), (0, 0, l1, u1, a), (0, 0, l2, u2, b)] M post := by
  refine xa_C_arg [(2, 60, 0, 0, 0), (0, 0, (-2147483648), 2147483647, a), (0, 0, (-2147483648), 2147483647, b)] (xa_svR (xa_svI (fun _ _ _ _ => by omega) (xa_svI (fun _ _ _ _ => by omega) xa_sv0))) ?_
  refine xa_meth (Q0 := (3, 1, false, 0, 0, 12)) (by decide +kernel) ⟨rfl, rfl⟩ (full := s_c_283) rfl rfl ?_
  intro hM hv Q hgo
  refine hgo.1 37 [] 0 _ _ _ ?_
  show xa_C xm_I A h0 _ 214 [(0, 0, (-2147483648), 2147483647, a), (0, 0, 0, 0, 0), (0, 0, 222, 222, 222)] (xa_up M 60 21 0) _
  refine ct_in ?_ ?_
  · intro (i1 : 0 ≤ a ∧ a ≤ 222)
    refine And.intro ?_ ?_
    · intro (c2 : b = 0)
      refine And.intro (show 0 ≤ a ∧ a < 223 by omega) ?_
      refine And.intro ?_ ?_
      · intro (c3 : (M 96 a) = 0)
        refine And.intro (show 0 ≤ a ∧ a < 223 by omega) ?_
        refine And.intro (show 0 ≤ b ∧ b ≤ 1 by omega) ?_
        show post (some (0, 0, (-2147483648), 2147483647, (M 60 55) + (0 - 0))) (xa_up (xa_up (xa_up M 60 21 0) 60 55 ((M 60 55) + (0 - 0))) 96 a b)
        exact k _ _ (xm_iz_u rfl (xm_iz_u rfl (xm_iz_u rfl xm_iz_r)))
      · intro (c3 : ¬ (M 96 a) = 0)
        refine And.intro (show 0 ≤ a ∧ a < 223 by omega) ?_
        refine And.intro (show 0 ≤ b ∧ b ≤ 1 by omega) ?_
        show post (some (0, 0, (-2147483648), 2147483647, xa_w32 ((M 60 55) + (0 - 1)))) (xa_up (xa_up (xa_up M 60 21 0) 60 55 (xa_w32 ((M 60 55) + (0 - 1)))) 96 a b)
        exact k _ _ (xm_iz_u rfl (xm_iz_u rfl (xm_iz_u rfl xm_iz_r)))
    · intro (c2 : ¬ b = 0)
      refine And.intro (show 0 ≤ a ∧ a < 223 by omega) ?_
      refine And.intro ?_ ?_
      · intro (c4 : (M 96 a) = 0)
        refine And.intro (show 0 ≤ a ∧ a < 223 by omega) ?_
        refine And.intro (show 0 ≤ b ∧ b ≤ 1 by omega) ?_
        show post (some (0, 0, (-2147483648), 2147483647, xa_w32 ((M 60 55) + (1 - 0)))) (xa_up (xa_up (xa_up M 60 21 0) 60 55 (xa_w32 ((M 60 55) + (1 - 0)))) 96 a b)
        exact k _ _ (xm_iz_u rfl (xm_iz_u rfl (xm_iz_u rfl xm_iz_r)))
      · intro (c4 : ¬ (M 96 a) = 0)
        refine And.intro (show 0 ≤ a ∧ a < 223 by omega) ?_
        refine And.intro (show 0 ≤ b ∧ b ≤ 1 by omega) ?_
        show post (some (0, 0, (-2147483648), 2147483647, (M 60 55) + (1 - 1))) (xa_up (xa_up (xa_up M 60 21 0) 60 55 ((M 60 55) + (1 - 1))) 96 a b)
        exact k _ _ (xm_iz_u rfl (xm_iz_u rfl (xm_iz_u rfl xm_iz_r)))
  · intro (i1 : ¬ (0 ≤ a ∧ a ≤ 222))
    show post (some (0, 0, (-1), (-1), (-1))) (xa_up M 60 21 0)
    exact k _ _ (xm_iz_u rfl xm_iz_r)
theorem hmR_283 : iv_hmR 283 [0, 1] := by
  intro A h as hI hs
  obtain ⟨m1, ys, rfl, h1, hs⟩ := iv_spc hs
  obtain ⟨m2, ys, rfl, h2, hs⟩ := iv_spc hs
  obtain rfl := iv_sp0 hs
  exact g_run_rt (iv_callMU (d := 60) hI (vs := [(2, 60, 0, 0, 0), (0, 0, -2147483648, 2147483647, m1.toInt), (0, 0, -2147483648, 2147483647, m2.toInt)]) (xs := [.ref (A 60), .int m1, .int m2]) ⟨rfl, iv_i m1, iv_i m2, trivial⟩ (fun M hM => ms_dialK (by have := h2 rfl; omega) hM (fun _ _ hc => ⟨xm_iz_k hc, xm_Inv_is (xm_iz_is hc) hM⟩))) (fun _ _ h1 h2 => ⟨iv_rtI (j := 283) (Q := (3, 1, false, 0, 0, 12)) (by decide +kernel) (by decide) h2, h1⟩)
theorem ms_seenK {A : Nat → Nat} {h0 : g_H} {d : Nat} {M : xa_M} {post : Option xa_V → xa_M → Prop} {l1 u1 l2 u2 : Int} {a b : Int} (hb : 0 ≤ b ∧ b ≤ 1) (hI : xm_Inv M) (k : ∀ (o : Option xa_V) (M1 : xa_M), xm_iz M M1 → post o M1) : xa_C xm_I A h0 (d + 2) 284 [(2, 60, 0, 0, 0), (0, 0, l1, u1, a), (0, 0, l2, u2, b)] M post := by
  refine xa_C_arg [(2, 60, 0, 0, 0), (0, 0, (-2147483648), 2147483647, a), (0, 0, (-2147483648), 2147483647, b)] (xa_svR (xa_svI (fun _ _ _ _ => by omega) (xa_svI (fun _ _ _ _ => by omega) xa_sv0))) ?_
  refine xa_meth (Q0 := (3, 1, false, 0, 0, 12)) (by decide +kernel) ⟨rfl, rfl⟩ (full := s_c_284) rfl rfl ?_
  intro hM hv Q hgo
  have b56 := xm_f56 hM
  refine hgo.1 37 [] 0 _ _ _ ?_
  show xa_C xm_I A h0 _ 214 [(0, 0, (-2147483648), 2147483647, a), (0, 0, 0, 0, 0), (0, 0, 9999, 9999, 9999)] (xa_up M 60 21 0) _
  refine ct_in ?_ ?_
  · intro (i1 : 0 ≤ a ∧ a ≤ 9999)
    refine And.intro ?_ ?_
    · intro (c2 : ¬ (M 60 56) = 20)
      refine And.intro (show 0 ≤ (M 60 56) ∧ (M 60 56) < 20 by omega) ?_
      refine And.intro (show 0 ≤ a ∧ a ≤ 9999 by omega) ?_
      refine And.intro (show 0 ≤ (M 60 56) ∧ (M 60 56) < 20 by omega) ?_
      refine And.intro (show 0 ≤ b ∧ b ≤ 1 by omega) ?_
      refine And.intro (show 0 ≤ ((M 60 56) + 1) ∧ ((M 60 56) + 1) ≤ 20 by omega) ?_
      show post (some (0, 0, 0, 20, (M 60 56) + 1)) (xa_up (xa_up (xa_up (xa_up M 60 21 0) 97 (M 60 56) a) 98 (M 60 56) b) 60 56 ((M 60 56) + 1))
      exact k _ _ (xm_iz_u rfl (xm_iz_u rfl (xm_iz_u rfl (xm_iz_u rfl xm_iz_r))))
    · intro (c2 : (M 60 56) = 20)
      show post (some (0, 0, (-1), (-1), (-1))) (xa_up M 60 21 0)
      exact k _ _ (xm_iz_u rfl xm_iz_r)
  · intro (i1 : ¬ (0 ≤ a ∧ a ≤ 9999))
    show post (some (0, 0, (-1), (-1), (-1))) (xa_up M 60 21 0)
    exact k _ _ (xm_iz_u rfl xm_iz_r)
theorem hmR_284 : iv_hmR 284 [0, 1] := by
  intro A h as hI hs
  obtain ⟨m1, ys, rfl, h1, hs⟩ := iv_spc hs
  obtain ⟨m2, ys, rfl, h2, hs⟩ := iv_spc hs
  obtain rfl := iv_sp0 hs
  exact g_run_rt (iv_callMU (d := 60) hI (vs := [(2, 60, 0, 0, 0), (0, 0, -2147483648, 2147483647, m1.toInt), (0, 0, -2147483648, 2147483647, m2.toInt)]) (xs := [.ref (A 60), .int m1, .int m2]) ⟨rfl, iv_i m1, iv_i m2, trivial⟩ (fun M hM => ms_seenK (by have := h2 rfl; omega) hM (fun _ _ hc => ⟨xm_iz_k hc, xm_Inv_is (xm_iz_is hc) hM⟩))) (fun _ _ h1 h2 => ⟨iv_rtI (j := 284) (Q := (3, 1, false, 0, 0, 12)) (by decide +kernel) (by decide) h2, h1⟩)
theorem ms_gamesK {A : Nat → Nat} {h0 : g_H} {d : Nat} {M : xa_M} {post : Option xa_V → xa_M → Prop} {l1 u1 : Int} {a : Int} (hI : xm_Inv M) (k : ∀ (o : Option xa_V) (M1 : xa_M), xm_iz M M1 → post o M1) : xa_C xm_I A h0 (d + 2) 285 [(2, 60, 0, 0, 0), (0, 0, l1, u1, a)] M post := by
  refine xa_C_arg [(2, 60, 0, 0, 0), (0, 0, (-2147483648), 2147483647, a)] (xa_svR (xa_svI (fun _ _ _ _ => by omega) xa_sv0)) ?_
  refine xa_meth (Q0 := (2, 1, false, 0, 0, 12)) (by decide +kernel) ⟨rfl, rfl⟩ (full := s_c_285) rfl rfl ?_
  intro hM hv Q hgo
  have b59 := xm_f59 hM
  refine hgo.1 31 [] 0 _ _ _ ?_
  show xa_C xm_I A h0 _ 214 [(0, 0, (-2147483648), 2147483647, a), (0, 0, 0, 0, 0), (0, 0, 999, 999, 999)] (xa_up M 60 21 0) _
  refine ct_in ?_ ?_
  · intro (i1 : 0 ≤ a ∧ a ≤ 999)
    refine And.intro ?_ ?_
    · intro (c2 : ¬ (M 60 59) = 8)
      refine And.intro (show 0 ≤ (M 60 59) ∧ (M 60 59) < 8 by omega) ?_
      refine And.intro (show 0 ≤ a ∧ a ≤ 999 by omega) ?_
      refine And.intro (show 0 ≤ ((M 60 59) + 1) ∧ ((M 60 59) + 1) ≤ 8 by omega) ?_
      show post (some (0, 0, 0, 8, (M 60 59) + 1)) (xa_up (xa_up (xa_up M 60 21 0) 99 (M 60 59) a) 60 59 ((M 60 59) + 1))
      exact k _ _ (xm_iz_u rfl (xm_iz_u rfl (xm_iz_u rfl xm_iz_r)))
    · intro (c2 : (M 60 59) = 8)
      show post (some (0, 0, (-1), (-1), (-1))) (xa_up M 60 21 0)
      exact k _ _ (xm_iz_u rfl xm_iz_r)
  · intro (i1 : ¬ (0 ≤ a ∧ a ≤ 999))
    show post (some (0, 0, (-1), (-1), (-1))) (xa_up M 60 21 0)
    exact k _ _ (xm_iz_u rfl xm_iz_r)
theorem hmR_285 : iv_hmR 285 [0] := by
  intro A h as hI hs
  obtain ⟨m1, ys, rfl, h1, hs⟩ := iv_spc hs
  obtain rfl := iv_sp0 hs
  exact g_run_rt (iv_callMU (d := 60) hI (vs := [(2, 60, 0, 0, 0), (0, 0, -2147483648, 2147483647, m1.toInt)]) (xs := [.ref (A 60), .int m1]) ⟨rfl, iv_i m1, trivial⟩ (fun M hM => ms_gamesK hM (fun _ _ hc => ⟨xm_iz_k hc, xm_Inv_is (xm_iz_is hc) hM⟩))) (fun _ _ h1 h2 => ⟨iv_rtI (j := 285) (Q := (2, 1, false, 0, 0, 12)) (by decide +kernel) (by decide) h2, h1⟩)
theorem hmR_286 : iv_hmR 286 [] := by
  intro A h as hI hs
  obtain rfl := iv_sp0 hs
  exact g_run_rt (iv_callMU (d := 60) hI (vs := [(2, 60, 0, 0, 0)]) (xs := [.ref (A 60)]) ⟨rfl, trivial⟩ (fun M hM => ms_when hM (fun _ _ hc => ⟨xk_cor hc, xm_Inv_cor hc hM⟩))) (fun _ _ h1 h2 => ⟨iv_rtI (j := 286) (Q := (3, 1, false, 0, 0, 12)) (by decide +kernel) (by decide) h2, h1⟩)
theorem ms_wrongK {A : Nat → Nat} {h0 : g_H} {d : Nat} {M : xa_M} {post : Option xa_V → xa_M → Prop} (hI : xm_Inv M) (k : ∀ (o : Option xa_V) (M1 : xa_M), xm_iz M M1 → post o M1) : xa_C xm_I A h0 (d + 3) 288 [(2, 60, 0, 0, 0)] M post := by
  refine xa_meth (Q0 := (3, 1, false, 0, 0, 12)) (by decide +kernel) ⟨rfl, rfl⟩ (full := s_c_288) rfl rfl ?_
  intro hM hv Q hgo
  have loop0 : ∀ (n : Nat) (x2 x1 : Int) (M1 : xa_M), 1 ≤ x2 ∧ x2 ≤ 223 → 0 ≤ x1 ∧ x1 ≤ 222 → xm_iz M M1 → 223 - x2 < (n : Int) → Q 9 [(2, (0, 0, 1, 223, x2)), (1, (0, 0, 0, 222, x1)), (0, (2, 60, 0, 0, 0))] [] M1 := by
    intro n
    induction n with
    | zero => intro x2 x1 M1 b2 b1 hc hms; omega
    | succ n ih0 =>
      intro x2 x1 M1 b2 b1 hc hms0
      refine hgo.1 25 [9] 9 _ _ _ ?_
      refine And.intro ?_ ?_
      · intro (c1 : 223 ≤ x2)
        show xa_C xm_I A h0 _ 231 [(2, 60, 0, 0, 0), (1, 0, 0, 222, x1)] (xa_up M1 60 20 0) _
        refine ct_tell (n := 0) (by first | rfl | (simp [xa_up]; done) | omega) (by omega) (by omega) ?_
        show xa_C xm_I A h0 _ 287 [(2, 60, 0, 0, 0), (0, 0, 0, 222, x1)] (xa_up (xa_up (xa_up M1 60 20 0) 74 0 x1) 60 20 (0 + 1)) _
        refine ct_against (by omega) (by omega) (fun r2 => ?_)
        show xa_C xm_I A h0 _ 231 [(2, 60, 0, 0, 0), (1, 0, (-2147483648), 2147483647, r2)] (xa_up (xa_up (xa_up M1 60 20 0) 74 0 x1) 60 20 (0 + 1)) _
        refine ct_tell (n := (0 + 1)) (by first | rfl | (simp [xa_up]; done) | omega) (by omega) (by omega) ?_
        show xa_C xm_I A h0 _ 287 [(2, 60, 0, 0, 0), (0, 0, 0, 222, x1)] (xa_up (xa_up (xa_up (xa_up (xa_up M1 60 20 0) 74 0 x1) 60 20 (0 + 1)) 74 (0 + 1) r2) 60 20 ((0 + 1) + 1)) _
        refine ct_against (by omega) (by omega) (fun r3 => ?_)
        show xa_C xm_I A h0 _ 136 [(0, 0, (-2147483648), 2147483647, r3)] (xa_up (xa_up (xa_up (xa_up (xa_up M1 60 20 0) 74 0 x1) 60 20 (0 + 1)) 74 (0 + 1) r2) 60 20 ((0 + 1) + 1)) _
        refine ct_bitCount ?_
        show post (some (0, 0, (-2147483648), 2147483647, xa_bc r3)) (xa_up (xa_up (xa_up (xa_up (xa_up M1 60 20 0) 74 0 x1) 60 20 (0 + 1)) 74 (0 + 1) r2) 60 20 ((0 + 1) + 1))
        exact k _ _ (xm_iz_u rfl (xm_iz_u rfl (xm_iz_u rfl (xm_iz_u rfl (xm_iz_u rfl hc)))))
      · intro (c1 : x2 < 223)
        show xa_C xm_I A h0 _ 287 [(2, 60, 0, 0, 0), (0, 0, 1, 223, x2)] M1 _
        refine ct_against (by omega) (by omega) (fun r4 => ?_)
        show xa_C xm_I A h0 _ 136 [(0, 0, (-2147483648), 2147483647, r4)] M1 _
        refine ct_bitCount ?_
        show xa_C xm_I A h0 _ 287 [(2, 60, 0, 0, 0), (0, 0, 0, 222, x1)] M1 _
        refine ct_against (by omega) (by omega) (fun r5 => ?_)
        show xa_C xm_I A h0 _ 136 [(0, 0, (-2147483648), 2147483647, r5)] M1 _
        refine ct_bitCount ?_
        refine And.intro ?_ ?_
        · intro (c6 : (xa_bc r5) ≤ (xa_bc r4))
          show Q 9 [(2, (0, 0, 2, 224, x2 + 1)), (1, (0, 0, 0, 222, x1)), (0, (2, 60, 0, 0, 0))] [] M1
          refine hgo.2.1 9 _ [(2, (0, 0, 1, 223, x2 + 1)), (1, (0, 0, 0, 222, x1)), (0, (2, 60, 0, 0, 0))] _ _ (xa_subI rfl rfl (fun _ _ _ _ => by omega) (xa_subI rfl rfl (fun _ _ _ _ => by omega) (xa_subR rfl xa_sub0))) ?_
          exact ih0 (x2 + 1) x1 M1 (by omega) (by omega) hc (by omega)
        · intro (c6 : (xa_bc r4) < (xa_bc r5))
          show Q 9 [(2, (0, 0, 2, 224, x2 + 1)), (1, (0, 0, 1, 223, x2)), (0, (2, 60, 0, 0, 0))] [] M1
          refine hgo.2.1 9 _ [(2, (0, 0, 1, 223, x2 + 1)), (1, (0, 0, 0, 222, x2)), (0, (2, 60, 0, 0, 0))] _ _ (xa_subI rfl rfl (fun _ _ _ _ => by omega) (xa_subI rfl rfl (fun _ _ _ _ => by omega) (xa_subR rfl xa_sub0))) ?_
          exact ih0 (x2 + 1) x2 M1 (by omega) (by omega) hc (by omega)
  refine hgo.1 12 [9] 0 _ _ _ ?_
  show Q 9 [(2, (0, 0, 1, 1, 1)), (1, (0, 0, 0, 0, 0)), (0, (2, 60, 0, 0, 0))] [] (xa_up M 60 21 0)
  refine hgo.2.1 9 _ [(2, (0, 0, 1, 223, 1)), (1, (0, 0, 0, 222, 0)), (0, (2, 60, 0, 0, 0))] _ _ (xa_subI rfl rfl (fun _ _ _ _ => by omega) (xa_subI rfl rfl (fun _ _ _ _ => by omega) (xa_subR rfl xa_sub0))) ?_
  exact loop0 223 1 0 (xa_up M 60 21 0) (by omega) (by omega) (xm_iz_u rfl xm_iz_r) (by omega)
theorem hmR_288 : iv_hmR 288 [] := by
  intro A h as hI hs
  obtain rfl := iv_sp0 hs
  exact g_run_rt (iv_callMU (d := 60) hI (vs := [(2, 60, 0, 0, 0)]) (xs := [.ref (A 60)]) ⟨rfl, trivial⟩ (fun M hM => ms_wrongK hM (fun _ _ hc => ⟨xm_iz_k hc, xm_Inv_is (xm_iz_is hc) hM⟩))) (fun _ _ h1 h2 => ⟨iv_rtI (j := 288) (Q := (3, 1, false, 0, 0, 12)) (by decide +kernel) (by decide) h2, h1⟩)
theorem ms_yearK {A : Nat → Nat} {h0 : g_H} {d : Nat} {M : xa_M} {post : Option xa_V → xa_M → Prop} (hI : xm_Inv M) (k : ∀ (o : Option xa_V) (M1 : xa_M), xm_iz M M1 → post o M1) : xa_C xm_I A h0 (d + 1) 289 [(2, 60, 0, 0, 0)] M post := by
  refine xa_meth (Q0 := (3, 1, false, 0, 0, 12)) (by decide +kernel) ⟨rfl, rfl⟩ (full := s_c_289) rfl rfl ?_
  intro hM hv Q hgo
  have b59 := xm_f59 hM
  have loop0 : ∀ (n : Nat) (x2 x1 : Int) (M1 : xa_M), 1 ≤ x2 ∧ x2 ≤ 9 → xm_iz M M1 → M1 60 59 = M 60 59 → 9 - x2 < (n : Int) → Q 29 [(2, (0, 0, 1, 9, x2)), (1, (0, 0, (-2147483648), 2147483647, x1)), (0, (2, 60, 0, 0, 0))] [] M1 := by
    intro n
    induction n with
    | zero => intro x2 x1 M1 b2 hc h59 hms; omega
    | succ n ih0 =>
      intro x2 x1 M1 b2 hc h59 hms0
      refine hgo.1 20 [29] 29 _ _ _ ?_
      refine And.intro ?_ ?_
      · intro (c1 : (M1 60 59) ≤ x2)
        show post (some (0, 0, (-2147483648), 2147483647, x1)) M1
        exact k _ _ hc
      · intro (c1 : x2 < (M1 60 59))
        refine And.intro (show 0 ≤ x2 ∧ x2 < 8 by omega) ?_
        refine And.intro ?_ ?_
        · intro (c2 : ((xa_w32 (x1 + (M1 99 x2))).tmod 4) = 0)
          show Q 29 [(2, (0, 0, 2, 10, x2 + 1)), (1, (0, 0, (-2147483648), 2147483647, x1)), (0, (2, 60, 0, 0, 0))] [] M1
          refine hgo.2.1 29 _ [(2, (0, 0, 1, 9, x2 + 1)), (1, (0, 0, (-2147483648), 2147483647, x1)), (0, (2, 60, 0, 0, 0))] _ _ (xa_subI rfl rfl (fun _ _ _ _ => by omega) (xa_subI rfl rfl (fun _ _ _ _ => by omega) (xa_subR rfl xa_sub0))) ?_
          exact ih0 (x2 + 1) x1 M1 (by omega) hc (by first | omega | (simp [xa_up]; done) | (simp [xa_up]; omega)) (by omega)
        · intro (c2 : ¬ ((xa_w32 (x1 + (M1 99 x2))).tmod 4) = 0)
          show post (some (0, 0, (-2), (-2), (-2))) M1
          exact k _ _ hc
  refine hgo.1 24 [29] 0 _ _ _ ?_
  refine And.intro ?_ ?_
  · intro (c1 : ¬ (M 60 59) = 0)
    show Q 29 [(2, (0, 0, 1, 1, 1)), (1, (0, 0, 0, 3, (4 - ((M 99 0) % 4)) % 4)), (0, (2, 60, 0, 0, 0))] [] (xa_up M 60 21 0)
    refine hgo.2.1 29 _ [(2, (0, 0, 1, 9, 1)), (1, (0, 0, (-2147483648), 2147483647, (4 - ((M 99 0) % 4)) % 4)), (0, (2, 60, 0, 0, 0))] _ _ (xa_subI rfl rfl (fun _ _ _ _ => by omega) (xa_subI rfl rfl (fun _ _ _ _ => by omega) (xa_subR rfl xa_sub0))) ?_
    exact loop0 9 1 ((4 - ((M 99 0) % 4)) % 4) (xa_up M 60 21 0) (by omega) (xm_iz_u rfl xm_iz_r) (by first | omega | (simp [xa_up]; done) | (simp [xa_up]; omega)) (by omega)
  · intro (c1 : (M 60 59) = 0)
    show post (some (0, 0, (-1), (-1), (-1))) (xa_up M 60 21 0)
    exact k _ _ (xm_iz_u rfl xm_iz_r)
theorem hmR_289 : iv_hmR 289 [] := by
  intro A h as hI hs
  obtain rfl := iv_sp0 hs
  exact g_run_rt (iv_callMU (d := 60) hI (vs := [(2, 60, 0, 0, 0)]) (xs := [.ref (A 60)]) ⟨rfl, trivial⟩ (fun M hM => ms_yearK hM (fun _ _ hc => ⟨xm_iz_k hc, xm_Inv_is (xm_iz_is hc) hM⟩))) (fun _ _ h1 h2 => ⟨iv_rtI (j := 289) (Q := (3, 1, false, 0, 0, 12)) (by decide +kernel) (by decide) h2, h1⟩)
theorem ms_leftK {A : Nat → Nat} {h0 : g_H} {d : Nat} {M : xa_M} {post : Option xa_V → xa_M → Prop} {l1 u1 l2 u2 l3 u3 l4 u4 : Int} {a b c e : Int} (hI : xm_Inv M) (k : ∀ (o : Option xa_V) (M1 : xa_M), xm_iz M M1 → post o M1) : xa_C xm_I A h0 (d + 3) 290 [(2, 60, 0, 0, 0), (0, 0, l1, u1, a), (0, 0, l2, u2, b), (0, 0, l3, u3, c), (0, 0, l4, u4, e)] M post := by
  refine xa_C_arg [(2, 60, 0, 0, 0), (0, 0, (-2147483648), 2147483647, a), (0, 0, (-2147483648), 2147483647, b), (0, 0, (-2147483648), 2147483647, c), (0, 0, (-2147483648), 2147483647, e)] (xa_svR (xa_svI (fun _ _ _ _ => by omega) (xa_svI (fun _ _ _ _ => by omega) (xa_svI (fun _ _ _ _ => by omega) (xa_svI (fun _ _ _ _ => by omega) xa_sv0))))) ?_
  refine xa_meth (Q0 := (5, 1, false, 0, 0, 12)) (by decide +kernel) ⟨rfl, rfl⟩ (full := s_c_290) rfl rfl ?_
  intro hM hv Q hgo
  have b61 := xm_f61 hM
  refine hgo.1 64 [] 0 _ _ _ ?_
  show xa_C xm_I A h0 _ 215 [(0, 0, (-2147483648), 2147483647, a)] (xa_up M 60 21 0) _
  refine ct_isAxle ?_ ?_
  · intro (i1 : 0 ≤ a ∧ a ≤ 9)
    show xa_C xm_I A h0 _ 214 [(0, 0, (-2147483648), 2147483647, b), (0, 0, 0, 0, 0), (0, 0, 9, 9, 9)] (xa_up M 60 21 0) _
    refine ct_in ?_ ?_
    · intro (i2 : 0 ≤ b ∧ b ≤ 9)
      show xa_C xm_I A h0 _ 214 [(0, 0, (-2147483648), 2147483647, c), (0, 0, 10, 10, 10), (0, 0, 400, 400, 400)] (xa_up M 60 21 0) _
      refine ct_in ?_ ?_
      · intro (i3 : 10 ≤ c ∧ c ≤ 400)
        show xa_C xm_I A h0 _ 214 [(0, 0, (-2147483648), 2147483647, e), (0, 0, (-2147483648), 2147483647, c), (0, 0, 400, 400, 400)] (xa_up M 60 21 0) _
        refine ct_in ?_ ?_
        · intro (i4 : c ≤ e ∧ e ≤ 400)
          refine And.intro ?_ ?_
          · intro (c5 : ¬ (M 60 61) = 12)
            refine And.intro (show 0 ≤ (M 60 61) ∧ (M 60 61) < 12 by omega) ?_
            refine And.intro (show 0 ≤ (M 60 61) ∧ (M 60 61) < 12 by omega) ?_
            refine And.intro (show 0 ≤ (M 60 61) ∧ (M 60 61) < 12 by omega) ?_
            refine And.intro (show 0 ≤ (M 60 61) ∧ (M 60 61) < 12 by omega) ?_
            refine And.intro (show 0 ≤ ((M 60 61) + 1) ∧ ((M 60 61) + 1) ≤ 12 by omega) ?_
            show post (some (0, 0, (-1), 11, ((M 60 61) + 1) - 1)) (xa_up (xa_up (xa_up (xa_up (xa_up (xa_up M 60 21 0) 100 (M 60 61) a) 101 (M 60 61) b) 102 (M 60 61) c) 103 (M 60 61) e) 60 61 ((M 60 61) + 1))
            exact k _ _ (xm_iz_u rfl (xm_iz_u rfl (xm_iz_u rfl (xm_iz_u rfl (xm_iz_u rfl (xm_iz_u rfl xm_iz_r))))))
          · intro (c5 : (M 60 61) = 12)
            show post (some (0, 0, (-1), (-1), (-1))) (xa_up M 60 21 0)
            exact k _ _ (xm_iz_u rfl xm_iz_r)
        · intro (i4 : ¬ (c ≤ e ∧ e ≤ 400))
          show post (some (0, 0, (-1), (-1), (-1))) (xa_up M 60 21 0)
          exact k _ _ (xm_iz_u rfl xm_iz_r)
      · intro (i3 : ¬ (10 ≤ c ∧ c ≤ 400))
        show post (some (0, 0, (-1), (-1), (-1))) (xa_up M 60 21 0)
        exact k _ _ (xm_iz_u rfl xm_iz_r)
    · intro (i2 : ¬ (0 ≤ b ∧ b ≤ 9))
      show post (some (0, 0, (-1), (-1), (-1))) (xa_up M 60 21 0)
      exact k _ _ (xm_iz_u rfl xm_iz_r)
  · intro (i1 : ¬ (0 ≤ a ∧ a ≤ 9))
    show post (some (0, 0, (-1), (-1), (-1))) (xa_up M 60 21 0)
    exact k _ _ (xm_iz_u rfl xm_iz_r)
theorem hmR_290 : iv_hmR 290 [0, 0, 0, 0] := by
  intro A h as hI hs
  obtain ⟨m1, ys, rfl, h1, hs⟩ := iv_spc hs
  obtain ⟨m2, ys, rfl, h2, hs⟩ := iv_spc hs
  obtain ⟨m3, ys, rfl, h3, hs⟩ := iv_spc hs
  obtain ⟨m4, ys, rfl, h4, hs⟩ := iv_spc hs
  obtain rfl := iv_sp0 hs
  exact g_run_rt (iv_callMU (d := 60) hI (vs := [(2, 60, 0, 0, 0), (0, 0, -2147483648, 2147483647, m1.toInt), (0, 0, -2147483648, 2147483647, m2.toInt), (0, 0, -2147483648, 2147483647, m3.toInt), (0, 0, -2147483648, 2147483647, m4.toInt)]) (xs := [.ref (A 60), .int m1, .int m2, .int m3, .int m4]) ⟨rfl, iv_i m1, iv_i m2, iv_i m3, iv_i m4, trivial⟩ (fun M hM => ms_leftK hM (fun _ _ hc => ⟨xm_iz_k hc, xm_Inv_is (xm_iz_is hc) hM⟩))) (fun _ _ h1 h2 => ⟨iv_rtI (j := 290) (Q := (5, 1, false, 0, 0, 12)) (by decide +kernel) (by decide) h2, h1⟩)
theorem hmR_291 : iv_hmR 291 [] := by
  intro A h as hI hs
  obtain rfl := iv_sp0 hs
  exact g_run_rt (iv_callMU (d := 60) hI (vs := [(2, 60, 0, 0, 0)]) (xs := [.ref (A 60)]) ⟨rfl, trivial⟩ (fun M hM => ms_breaks hM (fun _ _ hc => ⟨xk_cor hc, xm_Inv_cor hc hM⟩))) (fun _ _ h1 h2 => ⟨iv_rtI (j := 291) (Q := (8, 1, false, 0, 0, 12)) (by decide +kernel) (by decide) h2, h1⟩)
theorem hmR_297 : iv_hmR 297 [0, 0] := by
  intro A h as hI hs
  obtain ⟨m1, ys, rfl, h1, hs⟩ := iv_spc hs
  obtain ⟨m2, ys, rfl, h2, hs⟩ := iv_spc hs
  obtain rfl := iv_sp0 hs
  exact g_run_rt (iv_callMU (d := 60) hI (vs := [(2, 60, 0, 0, 0), (0, 0, -2147483648, 2147483647, m1.toInt), (0, 0, -2147483648, 2147483647, m2.toInt)]) (xs := [.ref (A 60), .int m1, .int m2]) ⟨rfl, iv_i m1, iv_i m2, trivial⟩ (fun M hM => ms_unlike hM (fun _ _ hc => ⟨xk_cor hc, xm_Inv_cor hc hM⟩))) (fun _ _ h1 h2 => ⟨iv_rtI (j := 297) (Q := (9, 1, false, 0, 0, 12)) (by decide +kernel) (by decide) h2, h1⟩)
theorem ms_countK {A : Nat → Nat} {h0 : g_H} {d : Nat} {M : xa_M} {post : Option xa_V → xa_M → Prop} {l1 u1 : Int} {a : Int} (hI : xm_Inv M) (k : ∀ (o : Option xa_V) (M1 : xa_M), xm_iz M M1 → post o M1) : xa_C xm_I A h0 (d + 1) 300 [(2, 60, 0, 0, 0), (0, 0, l1, u1, a)] M post := by
  refine xa_C_arg [(2, 60, 0, 0, 0), (0, 0, (-2147483648), 2147483647, a)] (xa_svR (xa_svI (fun _ _ _ _ => by omega) xa_sv0)) ?_
  refine xa_meth (Q0 := (2, 1, false, 0, 0, 12)) (by decide +kernel) ⟨rfl, rfl⟩ (full := s_c_300) rfl rfl ?_
  intro hM hv Q hgo
  refine hgo.1 12 [] 0 _ _ _ ?_
  refine And.intro ?_ (And.intro ?_ (And.intro ?_ (And.intro ?_ (And.intro ?_ (And.intro ?_ (And.intro ?_ (And.intro ?_ (And.intro ?_ (And.intro ?_ (And.intro ?_ (And.intro ?_ trivial)))))))))))
  · intro (c1 : a < 0 ∨ 10 < a)
    show post (some (0, 0, (-1), (-1), (-1))) (xa_up M 60 21 0)
    exact k _ _ (xm_iz_u rfl xm_iz_r)
  · intro (c1 : a = 0)
    show post (some (0, 0, 0, 14, M 60 0)) (xa_up M 60 21 0)
    exact k _ _ (xm_iz_u rfl xm_iz_r)
  · intro (c1 : a = 1)
    show post (some (0, 0, 0, 16, M 60 6)) (xa_up M 60 21 0)
    exact k _ _ (xm_iz_u rfl xm_iz_r)
  · intro (c1 : a = 2)
    show post (some (0, 0, 0, 8, M 60 11)) (xa_up M 60 21 0)
    exact k _ _ (xm_iz_u rfl xm_iz_r)
  · intro (c1 : a = 3)
    show post (some (0, 0, (-2147483648), 2147483647, M 60 55)) (xa_up M 60 21 0)
    exact k _ _ (xm_iz_u rfl xm_iz_r)
  · intro (c1 : a = 4)
    show post (some (0, 0, 0, 20, M 60 56)) (xa_up M 60 21 0)
    exact k _ _ (xm_iz_u rfl xm_iz_r)
  · intro (c1 : a = 5)
    show post (some (0, 0, 0, 8, M 60 59)) (xa_up M 60 21 0)
    exact k _ _ (xm_iz_u rfl xm_iz_r)
  · intro (c1 : a = 6)
    show post (some (0, 0, 0, 12, M 60 61)) (xa_up M 60 21 0)
    exact k _ _ (xm_iz_u rfl xm_iz_r)
  · intro (c1 : a = 7)
    show post (some (0, 0, 0, 32, M 60 20)) (xa_up M 60 21 0)
    exact k _ _ (xm_iz_u rfl xm_iz_r)
  · intro (c1 : a = 8)
    show post (some (0, 0, 0, 80, M 60 18)) (xa_up M 60 21 0)
    exact k _ _ (xm_iz_u rfl xm_iz_r)
  · intro (c1 : a = 9)
    show post (some (0, 0, 10, 400, M 60 15)) (xa_up M 60 21 0)
    exact k _ _ (xm_iz_u rfl xm_iz_r)
  · intro (c1 : a = 10)
    show post (some (0, 0, 10, 400, M 60 16)) (xa_up M 60 21 0)
    exact k _ _ (xm_iz_u rfl xm_iz_r)
theorem hmR_300 : iv_hmR 300 [0] := by
  intro A h as hI hs
  obtain ⟨m1, ys, rfl, h1, hs⟩ := iv_spc hs
  obtain rfl := iv_sp0 hs
  exact g_run_rt (iv_callMU (d := 60) hI (vs := [(2, 60, 0, 0, 0), (0, 0, -2147483648, 2147483647, m1.toInt)]) (xs := [.ref (A 60), .int m1]) ⟨rfl, iv_i m1, trivial⟩ (fun M hM => ms_countK hM (fun _ _ hc => ⟨xm_iz_k hc, xm_Inv_is (xm_iz_is hc) hM⟩))) (fun _ _ h1 h2 => ⟨iv_rtI (j := 300) (Q := (2, 1, false, 0, 0, 12)) (by decide +kernel) (by decide) h2, h1⟩)
theorem ms_ofK {A : Nat → Nat} {h0 : g_H} {d : Nat} {M : xa_M} {post : Option xa_V → xa_M → Prop} {l1 u1 l2 u2 : Int} {a b : Int} (hI : xm_Inv M) (k : ∀ (o : Option xa_V) (M1 : xa_M), xk_U M M1 → xm_Inv M1 → post o M1) : xa_C xm_I A h0 (d + 3) 223 [(2, 60, 0, 0, 0), (0, 0, l1, u1, a), (0, 0, l2, u2, b)] M post := by
  refine xa_C_arg [(2, 60, 0, 0, 0), (0, 0, (-2147483648), 2147483647, a), (0, 0, (-2147483648), 2147483647, b)] (xa_svR (xa_svI (fun _ _ _ _ => by omega) (xa_svI (fun _ _ _ _ => by omega) xa_sv0))) ?_
  refine xa_meth (Q0 := (5, 1, false, 0, 0, 12)) (by decide +kernel) ⟨rfl, rfl⟩ (full := s_c_223) rfl rfl ?_
  intro hM hv Q hgo
  have b0 := xm_f0 hM
  have b6 := xm_f6 hM
  have loop : ∀ (n : Nat) (o c : Int), 0 ≤ o → o ≤ 14 → 14 - o < (n : Int) → Q 99 [(4, (0, 0, 0, 14, o)), (3, (0, 0, (-2147483648), 2147483647, c)), (1, (0, 0, (-2147483648), 2147483647, a)), (0, (2, 60, 0, 0, 0))] [] (xa_up M 60 21 0) := by
    intro n
    induction n with
    | zero => intro o c h1 h2 hms; omega
    | succ n ih =>
      intro o c h1 h2 hms
      refine hgo.1 22 [99] 99 _ _ _ ?_
      refine And.intro ?_ ?_
      · intro (c1 : (M 60 0) ≤ o)
        show post (some (0, 0, (-2147483648), 2147483647, c)) (xa_up M 60 21 0)
        exact k _ _ (xk_cor (xm_cor_f (by omega) xm_cor_r)) (xm_Inv_cor (xm_cor_f (by omega) xm_cor_r) hI)
      · intro (c1 : o < (M 60 0))
        show xa_C xm_I A h0 _ 221 [(2, 60, 0, 0, 0), (0, 0, (-2147483648), 2147483647, a), (0, 0, 0, 14, o)] (xa_up M 60 21 0) _
        refine ct_areMeshed (fun r2 zr2 er2 => ?_)
        refine And.intro ?_ ?_
        · intro (c3 : r2 = 0)
          show Q 99 [(4, (0, 0, 1, 15, o + 1)), (3, (0, 0, (-2147483648), 2147483647, c)), (1, (0, 0, (-2147483648), 2147483647, a)), (0, (2, 60, 0, 0, 0))] [] (xa_up M 60 21 0)
          refine hgo.2.1 99 _ [(4, (0, 0, 0, 14, o + 1)), (3, (0, 0, (-2147483648), 2147483647, c)), (1, (0, 0, (-2147483648), 2147483647, a)), (0, (2, 60, 0, 0, 0))] _ _ (xa_subI rfl rfl (fun _ _ _ _ => by omega) (xa_subI rfl rfl (fun _ _ _ _ => by omega) (xa_subI rfl rfl (fun _ _ _ _ => by omega) (xa_subR rfl xa_sub0)))) ?_
          exact ih (o + 1) c (by omega) (by omega) (by omega)
        · intro (c3 : ¬ r2 = 0)
          show Q 99 [(4, (0, 0, 1, 15, o + 1)), (3, (0, 0, (-2147483648), 2147483647, xa_ib 4 c (xa_ib 6 1 o))), (1, (0, 0, (-2147483648), 2147483647, a)), (0, (2, 60, 0, 0, 0))] [] (xa_up M 60 21 0)
          refine hgo.2.1 99 _ [(4, (0, 0, 0, 14, o + 1)), (3, (0, 0, (-2147483648), 2147483647, xa_ib 4 c (xa_ib 6 1 o))), (1, (0, 0, (-2147483648), 2147483647, a)), (0, (2, 60, 0, 0, 0))] _ _ (xa_subI rfl rfl (fun _ _ _ _ => by omega) (xa_subI rfl rfl (fun _ _ _ _ => by omega) (xa_subI rfl rfl (fun _ _ _ _ => by omega) (xa_subR rfl xa_sub0)))) ?_
          exact ih (o + 1) (xa_ib 4 c (xa_ib 6 1 o)) (by omega) (by omega) (by omega)
  refine hgo.1 36 [99] 0 _ _ _ ?_
  show xa_C xm_I A h0 _ 217 [(2, 60, 0, 0, 0), (0, 0, (-2147483648), 2147483647, a)] (xa_up M 60 21 0) _
  refine ct_isWheel ?_ ?_
  · intro (i1 : 0 ≤ a ∧ a < (M 60 0))
    show xa_C xm_I A h0 _ 214 [(0, 0, (-2147483648), 2147483647, b), (0, 0, 0, 0, 0), (0, 0, 5, 5, 5)] (xa_up M 60 21 0) _
    refine ct_in ?_ ?_
    · intro (i2 : 0 ≤ b ∧ b ≤ 5)
      refine And.intro ?_ ?_
      · intro (c3 : 5 ≤ b)
        show Q 99 [(4, (0, 0, 0, 0, 0)), (3, (0, 0, 0, 0, 0)), (0, (2, 60, 0, 0, 0)), (1, (0, 0, (-2147483648), 2147483647, a)), (2, (0, 0, (-2147483648), 2147483647, b))] [] (xa_up M 60 21 0)
        refine hgo.2.1 99 _ [(4, (0, 0, 0, 14, 0)), (3, (0, 0, (-2147483648), 2147483647, 0)), (1, (0, 0, (-2147483648), 2147483647, a)), (0, (2, 60, 0, 0, 0))] _ _ (xa_subI rfl rfl (fun _ _ _ _ => by omega) (xa_subI rfl rfl (fun _ _ _ _ => by omega) (xa_subI rfl rfl (fun _ _ _ _ => by omega) (xa_subR rfl xa_sub0)))) ?_
        exact loop 15 0 0 (by omega) (by omega) (by omega)
      · intro (c3 : b < 5)
        refine And.intro ?_ ?_
        · intro (c4 : ¬ b = 0)
          refine And.intro ?_ ?_
          · intro (c5 : ¬ b = 1)
            refine And.intro ?_ ?_
            · intro (c6 : ¬ b = 2)
              refine And.intro ?_ ?_
              · intro (c7 : ¬ b = 3)
                refine And.intro (show 0 ≤ a ∧ a < 14 by omega) ?_
                show post (some (0, 0, 0, 9, M 65 a)) (xa_up M 60 21 0)
                exact k _ _ (xk_cor (xm_cor_f (by omega) xm_cor_r)) (xm_Inv_cor (xm_cor_f (by omega) xm_cor_r) hI)
              · intro (c7 : b = 3)
                refine And.intro (show 0 ≤ a ∧ a < 14 by omega) ?_
                show post (some (0, 0, 0, 9, M 64 a)) (xa_up M 60 21 0)
                exact k _ _ (xk_cor (xm_cor_f (by omega) xm_cor_r)) (xm_Inv_cor (xm_cor_f (by omega) xm_cor_r) hI)
            · intro (c6 : b = 2)
              refine And.intro (show 0 ≤ a ∧ a < 14 by omega) ?_
              show post (some (0, 0, 0, 400, M 63 a)) (xa_up M 60 21 0)
              exact k _ _ (xk_cor (xm_cor_f (by omega) xm_cor_r)) (xm_Inv_cor (xm_cor_f (by omega) xm_cor_r) hI)
          · intro (c5 : b = 1)
            refine And.intro (show 0 ≤ a ∧ a < 14 by omega) ?_
            show post (some (0, 0, 0, 400, M 62 a)) (xa_up M 60 21 0)
            exact k _ _ (xk_cor (xm_cor_f (by omega) xm_cor_r)) (xm_Inv_cor (xm_cor_f (by omega) xm_cor_r) hI)
        · intro (c4 : b = 0)
          refine And.intro (show 0 ≤ a ∧ a < 14 by omega) ?_
          show post (some (0, 0, 0, 400, M 61 a)) (xa_up M 60 21 0)
          exact k _ _ (xk_cor (xm_cor_f (by omega) xm_cor_r)) (xm_Inv_cor (xm_cor_f (by omega) xm_cor_r) hI)
    · intro (i2 : ¬ (0 ≤ b ∧ b ≤ 5))
      show xa_C xm_I A h0 _ 224 [(2, 60, 0, 0, 0)] (xa_up M 60 21 0) _
      refine ct_lost ?_
      show post (some (0, 0, 0, 0, 0)) (xa_up (xa_up M 60 21 0) 60 21 1)
      exact k _ _ (xk_cor (xm_cor_f (by omega) (xm_cor_f (by omega) xm_cor_r))) (xm_Inv_cor (xm_cor_f (by omega) (xm_cor_f (by omega) xm_cor_r)) hI)
  · intro (i1 : ¬ (0 ≤ a ∧ a < (M 60 0)))
    show xa_C xm_I A h0 _ 224 [(2, 60, 0, 0, 0)] (xa_up M 60 21 0) _
    refine ct_lost ?_
    show post (some (0, 0, 0, 0, 0)) (xa_up (xa_up M 60 21 0) 60 21 1)
    exact k _ _ (xk_cor (xm_cor_f (by omega) (xm_cor_f (by omega) xm_cor_r))) (xm_Inv_cor (xm_cor_f (by omega) (xm_cor_f (by omega) xm_cor_r)) hI)
theorem hmR_223 : iv_hmR 223 [0, 0] := by
  intro A h as hI hs
  obtain ⟨m1, ys, rfl, h1, hs⟩ := iv_spc hs
  obtain ⟨m2, ys, rfl, h2, hs⟩ := iv_spc hs
  obtain rfl := iv_sp0 hs
  exact g_run_rt (iv_callMU (d := 60) hI (vs := [(2, 60, 0, 0, 0), (0, 0, -2147483648, 2147483647, m1.toInt), (0, 0, -2147483648, 2147483647, m2.toInt)]) (xs := [.ref (A 60), .int m1, .int m2]) ⟨rfl, iv_i m1, iv_i m2, trivial⟩ (fun M hM => ms_ofK hM (fun _ _ h1 h2 => ⟨h1, h2⟩))) (fun _ _ h1 h2 => ⟨iv_rtI (j := 223) (Q := (5, 1, false, 0, 0, 12)) (by decide +kernel) (by decide) h2, h1⟩)
theorem ms_rowLK {A : Nat → Nat} {h0 : g_H} {d : Nat} {M : xa_M} {post : Option xa_V → xa_M → Prop} {l1 u1 : Int} {a : Int} (hI : xm_Inv M) (k : ∀ (lo hi v : Int) (M1 : xa_M), xm_iz M M1 → post (some (1, 0, lo, hi, v)) M1) : xa_C xm_I A h0 (d + 2) 301 [(2, 60, 0, 0, 0), (0, 0, l1, u1, a)] M post := by
  refine xa_C_arg [(2, 60, 0, 0, 0), (0, 0, (-2147483648), 2147483647, a)] (xa_svR (xa_svI (fun _ _ _ _ => by omega) xa_sv0)) ?_
  refine xa_meth (Q0 := (2, 3, false, 0, 0, 12)) (by decide +kernel) ⟨rfl, rfl⟩ (full := s_c_301) rfl rfl ?_
  intro hM hv Q hgo
  have b20 := xm_f20 hM
  refine hgo.1 21 [] 0 _ _ _ ?_
  show xa_C xm_I A h0 _ 214 [(0, 0, (-2147483648), 2147483647, a), (0, 0, 0, 0, 0), (0, 0, (-1), 31, (M 60 20) - 1)] (xa_up M 60 21 0) _
  refine ct_in ?_ ?_
  · intro (i1 : 0 ≤ a ∧ a ≤ ((M 60 20) - 1))
    refine And.intro (show 0 ≤ a ∧ a < 32 by omega) ?_
    show post (some (1, 0, (-9223372036854775808), 9223372036854775807, M 74 a)) (xa_up M 60 21 0)
    exact k _ _ _ _ (xm_iz_u rfl xm_iz_r)
  · intro (i1 : ¬ (0 ≤ a ∧ a ≤ ((M 60 20) - 1)))
    show xa_C xm_I A h0 _ 224 [(2, 60, 0, 0, 0)] (xa_up M 60 21 0) _
    refine ct_lost ?_
    show post (some (1, 0, 0, 0, 0)) (xa_up (xa_up M 60 21 0) 60 21 1)
    exact k _ _ _ _ (xm_iz_u rfl (xm_iz_u rfl xm_iz_r))
/-- a call of the reference that leaves what is told, its answer told -/
theorem iv_callMV {d j : Nat} {A : Nat → Nat} {h : g_H} (hI : iv_J A h) {vs : List xa_V} {xs : List Value} (hx : xa_gS A vs xs) (Z : Option xa_V → Prop) (hC : ∀ M : xa_M, xm_Inv M → xa_C xm_I A h d j vs M (fun o M1 => Z o ∧ xk_U M M1 ∧ xm_Inv M1)) : g_run d j xs h 0 0 (fun r h' => (∃ o, Z o ∧ xa_gR A o r) ∧ iv_J A h') := by
  obtain ⟨W, b, hJ⟩ := hI
  obtain ⟨hH, hW, M, hM, hInv⟩ := hJ.1
  refine hC M hInv h xs hM hx _ (fun v M' x h' hv hx' hM' => ?_)
  exact ⟨⟨v, hv.1, hx'⟩, W, b, iv_J_m hJ hM hM' hv.2.1 hv.2.2⟩
theorem hmR_301L : ∀ (A : Nat → Nat) (h : g_H) (as : List Value), iv_J A h → iv_sp [0] as → g_run 60 301 (.ref (A 60) :: as) h 0 0 (fun r h' => (∃ y : Int64, r = some (.long y)) ∧ iv_J A h') := by
  intro A h as hI hs
  obtain ⟨m1, ys, rfl, h1, hs⟩ := iv_spc hs
  obtain rfl := iv_sp0 hs
  refine g_run_mono (iv_callMV (d := 60) hI (vs := [(2, 60, 0, 0, 0), (0, 0, -2147483648, 2147483647, m1.toInt)]) (xs := [.ref (A 60), .int m1]) ⟨rfl, iv_i m1, trivial⟩ (fun o => ∃ lo hi v, o = some (1, 0, lo, hi, v)) (fun M hM => ms_rowLK hM (fun lo hi v M1 h => ⟨⟨lo, hi, v, rfl⟩, xm_iz_k h, xm_Inv_is (xm_iz_is h) hM⟩))) (fun r h' hp => ⟨?_, hp.2⟩)
  obtain ⟨⟨o, ⟨lo, hi, v, rfl⟩, y, e, z, hz, -⟩, -⟩ := hp
  exact ⟨z, by rw [e, hz]⟩
