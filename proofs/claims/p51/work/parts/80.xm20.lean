-- joined: 80.xm20, 82.xm22, 83.xm23, 84.fp, 85.xd, 86.xd2, 87.xf, 89.xk, 90.xm30, 91.xm31, 92.law, 93.world, 94.start, 95.inv, 97.z
section
-- fittings of the model, told isFitting (made by wip/p24/xa/xm18.py)
set_option maxRecDepth 20000
/-- way, tries and how many: y are counted already -/
def xm_W (M : xa_M) (y : Int) : Prop := xm_way M ∧ xm_fit M ∧ xm_pr M (M 60 32).toNat ≤ 200000 ∧ y + xm_rk M (M 60 32).toNat < 200000
/-- what isFitting and tell may change -/
def xm_86 (M M1 : xa_M) : Prop := ∀ q j, (q ≠ 85 ∧ q ≠ 86 ∧ q ≠ 74 ∧ q ≠ 87 ∧ ¬ (q = 60 ∧ (j = 20 ∨ j = 39))) → M1 q j = M q j
theorem xm_86_p {M M1 : xa_M} (h : xm_86 M M1) : ∀ n : Nat, xm_pr M1 n = xm_pr M n ∧ xm_rk M1 n = xm_rk M n := by
  intro n
  induction n with
  | zero => exact ⟨rfl, rfl⟩
  | succ n ih =>
    have e1 := h 80 n (by omega)
    have e2 := h 62 (M 80 n) (by omega)
    have e3 := h 61 (M 80 n) (by omega)
    have e4 := h 84 n (by omega)
    show xm_pr M1 n * (M1 62 (M1 80 n) - M1 61 (M1 80 n) + 1) = xm_pr M n * (M 62 (M 80 n) - M 61 (M 80 n) + 1) ∧ xm_rk M1 n * (M1 62 (M1 80 n) - M1 61 (M1 80 n) + 1) + (M1 62 (M1 80 n) - M1 84 n) = xm_rk M n * (M 62 (M 80 n) - M 61 (M 80 n) + 1) + (M 62 (M 80 n) - M 84 n)
    rw [ih.1, ih.2, e1, e2, e3, e4]
    exact ⟨rfl, rfl⟩
theorem xm_86_W {M M1 : xa_M} {y : Int} (h : xm_86 M M1) (hW : xm_W M y) : xm_W M1 y ∧ xm_rk M1 (M1 60 32).toNat = xm_rk M (M 60 32).toNat := by
  obtain ⟨a, b, c, d⟩ := hW
  have e32 := h 60 32 (by omega)
  have e0 := h 60 0 (by omega)
  refine ⟨⟨fun i i0 i1 => ?_, fun i i0 i1 => ?_, ?_, ?_⟩, ?_⟩
  · rw [e32] at i1
    rw [e0, h 80 i (by omega)]
    exact a i i0 i1
  · rw [e32] at i1
    rw [h 80 i (by omega), h 61 _ (by omega), h 62 _ (by omega), h 84 i (by omega)]
    exact b i i0 i1
  · rw [e32, (xm_86_p h _).1]
    exact c
  · rw [e32, (xm_86_p h _).2]
    exact d
  · rw [e32, (xm_86_p h _).2]
theorem xm_W_rk {M : xa_M} {y : Int} (hW : xm_W M y) : 0 ≤ xm_rk M (M 60 32).toNat := by
  by_cases h : 0 ≤ M 60 32
  · exact (xm_rkb hW.2.1 _ (by omega)).1
  · have e : (M 60 32).toNat = 0 := by omega
    rw [e]
    exact Int.le_refl 0
theorem xm_86_s {M : xa_M} {q : Nat} {i v : Int} (hq : q = 74 ∨ q = 87 ∨ (q = 60 ∧ (i = 20 ∨ i = 39))) : xm_86 M (xa_up M q i v) := by
  intro q2 j h
  simp only [xa_up]
  rw [if_neg (fun e => by obtain ⟨e1, e2⟩ := e; subst e1; subst e2; omega)]
/-- way and how many ways -/
def xm_Y (M : xa_M) : Prop := xm_way M ∧ xm_pr M (M 60 32).toNat ≤ 200000
theorem xm_86_Y {M M1 : xa_M} (h : xm_86 M M1) (hY : xm_Y M) : xm_Y M1 := by
  have e32 := h 60 32 (by decide)
  have e0 := h 60 0 (by decide)
  refine ⟨fun i i0 i1 => ?_, ?_⟩
  · rw [e32] at i1
    rw [e0, h 80 i (by omega)]
    exact hY.1 i i0 i1
  · rw [e32, (xm_86_p h _).1]
    exact hY.2
/-- isFitting's contract (to be proved) -/
def xm_fd : Prop := ∀ {A : Nat → Nat} {h0 : g_H} {d : Nat} {M : xa_M} {post : Option xa_V → xa_M → Prop} {l u p : Int}, xm_Inv M → xm_way M → xm_fit M → 0 ≤ p → p < M 60 11 → (∀ (r : Int) (M1 : xa_M), (r = 0 ∨ r = 1) → (∀ q j, q ≠ 85 → q ≠ 86 → M1 q j = M q j) → post (some (0, 0, 0, 1, r)) M1) → xa_C xm_I A h0 (d + 3) 242 [(2, 60, 0, 0, 0), (0, 0, l, u, p)] M post
end
section
-- fit of the model, told isFitting (made by wip/p24/xa/xm20.py)
set_option maxRecDepth 20000
theorem xm_Inv_63 {M : xa_M} {j v : Int} (hI : xm_Inv M) (hv : 10 ≤ v) : xm_Inv (xa_up M 63 j v) := by
  refine xm_Inv_b (M := M) (fun j => by simp [xa_up]) (fun j => by simp [xa_up]) hI (fun w w0 w1 => ?_) (fun m m0 m1 => ?_) (fun p p0 p1 => ?_) ?_
  · have := hI.1 w w0 (by simpa [xa_up] using w1)
    simp only [xa_up]
    rw [if_neg (by omega), if_neg (by omega)]
    refine ⟨this.1, this.2.1, ?_⟩
    split
    · exact hv
    · exact this.2.2
  · have := hI.2.1 m m0 (by simpa [xa_up] using m1)
    simpa [xa_up] using this
  · have := hI.2.2.1 p p0 (by simpa [xa_up] using p1)
    simpa [xa_up] using this
  · have := hI.2.2.2.1
    simpa [xa_up] using this
theorem xm_W10 {M : xa_M} {y : Int} (hM : xa_Mok xm_I M) (hI : xm_Inv M) (hW : xm_W M y) (i : Int) (i0 : 0 ≤ i) (i1 : i < M 60 32) : 10 ≤ M 84 i := by
  have a := xm_way_sp hM hI hW.1 i i0 i1
  have b := hW.2.1 i i0 i1
  omega
end
section
-- isFitting of the model behind its doubles (made by wip/p24/xa/xm21.py)
set_option maxRecDepth 20000
/-- the numbers of an array ahead of n are at least 1 -/
def xm_ge (M : xa_M) (q : Nat) (n : Int) : Prop := ∀ i, 0 ≤ i → i < n → 1 ≤ M q i
theorem xm_ge_z {M : xa_M} {q : Nat} : xm_ge M q 0 := fun i i0 i1 => by omega
theorem xm_ge_s {M : xa_M} {q : Nat} {n v : Int} (h : xm_ge M q n) (hv : 1 ≤ v) : xm_ge (xa_up M q n v) q (n + 1) := by
  intro i i0 i1
  rw [xw_up]
  by_cases e : i = n
  · rw [if_pos e]
    exact hv
  · rw [if_neg e]
    exact h i i0 (by omega)
theorem xm_ge_i {M : xa_M} {q : Nat} {n j v : Int} (h : xm_ge M q n) (hv : 1 ≤ v) : xm_ge (xa_up M q j v) q n := by
  intro i i0 i1
  rw [xw_up]
  split
  · exact hv
  · exact h i i0 i1
theorem xm_ge_o {M : xa_M} {q q2 : Nat} {n j v : Int} (hq : q ≠ q2) (h : xm_ge M q n) : xm_ge (xa_up M q2 j v) q n := by
  intro i i0 i1
  have := h i i0 i1
  simpa [xa_up, hq] using this
def xm_fr (M M1 : xa_M) : Prop := ∀ q j, q ≠ 85 → q ≠ 86 → M1 q j = M q j
theorem xm_fr_u {M M1 : xa_M} {q : Nat} {i v : Int} (hq : q = 85 ∨ q = 86) (h : xm_fr M M1) : xm_fr M (xa_up M1 q i v) := by
  intro q2 j h5 h6
  have := h q2 j h5 h6
  have e : ¬ q2 = q := by omega
  simpa [xa_up, e] using this
theorem xm_td {x g : Int} (h1 : 1 ≤ g) (h2 : g ≤ x) : 1 ≤ x.tdiv g := by
  rw [Int.tdiv_eq_ediv_of_nonneg (by omega)]
  exact (Int.le_ediv_iff_mul_le (by omega)).2 (by omega)
theorem xm_if97 {A : Nat → Nat} {h0 : g_H} {d : Nat} {M : xa_M} {post : Option xa_V → xa_M → Prop} {p : Int} (hM : xa_Mok xm_I M) (hI : xm_Inv M) (ht : ∀ i, 0 ≤ i → i < M 60 32 → 10 ≤ M 84 i) (p0 : 0 ≤ p) (p1 : p < M 60 11) (k : ∀ (r : Int) (M1 : xa_M), (r = 0 ∨ r = 1) → (∀ q j, q ≠ 85 → q ≠ 86 → M1 q j = M q j) → post (some (0, 0, 0, 1, r)) M1) {Q : xa_Q} (hgo : xa_go xm_I (xa_C xm_I A h0 (d + 2)) (xa_wk post) s_c_242 10 2 Q) : Q 97 [(1, (0, 0, 0, 7, p)), (0, (2, 60, 0, 0, 0))] [] M := by
  have b11 := xm_f11 hM
  have hpp := hI.2.2.1 p p0 p1
  have loop4 : ∀ (n : Nat) (x6 x5 : Int) (M1 : xa_M), 0 ≤ x6 ∧ x6 ≤ 15 → 0 ≤ x5 ∧ x5 ≤ 15 → xm_cor M M1 → xm_fr M M1 → 15 - x6 < (n : Int) → Q 322 [(6, (0, 0, 0, 15, x6)), (5, (0, 0, 0, 15, x5)), (0, (2, 60, 0, 0, 0))] [] M1 := by
    intro n
    induction n with
    | zero => intro x6 x5 M1 b6 b5 hc hfr hms; omega
    | succ n ih4 =>
      intro x6 x5 M1 b6 b5 hc hfr hms4
      refine hgo.1 16 [140, 217, 227, 292, 322] 322 _ _ _ ?_
      refine And.intro ?_ ?_
      · intro (c1 : x5 ≤ x6)
        show xa_wk post (some (0, 0, 1, 1, 1)) M1
        exact xa_wkI 1 rfl (fun _ _ => by omega) (k 1 _ (by omega) hfr)
      · intro (c1 : x6 < x5)
        refine And.intro (show 0 ≤ x6 ∧ x6 < 15 by omega) ?_
        refine And.intro ?_ ?_
        · intro (c2 : (M1 86 x6) = 1)
          show Q 322 [(6, (0, 0, 1, 16, x6 + 1)), (5, (0, 0, 0, 15, x5)), (0, (2, 60, 0, 0, 0))] [] M1
          refine hgo.2.1 322 _ [(6, (0, 0, 0, 15, x6 + 1)), (5, (0, 0, 0, 15, x5)), (0, (2, 60, 0, 0, 0))] _ _ (xa_subI rfl rfl (fun _ _ _ _ => by omega) (xa_subI rfl rfl (fun _ _ _ _ => by omega) (xa_subR rfl xa_sub0))) ?_
          exact ih4 (x6 + 1) x5 M1 (by omega) (by omega) hc hfr (by omega)
        · intro (c2 : ¬ (M1 86 x6) = 1)
          show xa_wk post (some (0, 0, 0, 0, 0)) M1
          exact xa_wkI 0 rfl (fun _ _ => by omega) (k 0 _ (by omega) hfr)
  have loop3 : ∀ (n : Nat) (x6 x5 x4 : Int) (M1 : xa_M), 0 ≤ x6 ∧ x6 ≤ 15 → 0 ≤ x5 ∧ x5 ≤ 15 → 0 ≤ x4 ∧ x4 ≤ 15 → xm_cor M M1 → xm_fr M M1 → 15 - x6 < (n : Int) → Q 292 [(6, (0, 0, 0, 15, x6)), (5, (0, 0, 0, 15, x5)), (4, (0, 0, 0, 15, x4)), (0, (2, 60, 0, 0, 0))] [] M1 := by
    intro n
    induction n with
    | zero => intro x6 x5 x4 M1 b6 b5 b4 hc hfr hms; omega
    | succ n ih3 =>
      intro x6 x5 x4 M1 b6 b5 b4 hc hfr hms3
      refine hgo.1 16 [140, 217, 227, 292, 322] 292 _ _ _ ?_
      refine And.intro ?_ ?_
      · intro (c1 : x4 ≤ x6)
        show Q 322 [(6, (0, 0, 0, 0, 0)), (5, (0, 0, 0, 15, x5)), (4, (0, 0, 0, 15, x4)), (0, (2, 60, 0, 0, 0))] [] M1
        refine hgo.2.1 322 _ [(6, (0, 0, 0, 15, 0)), (5, (0, 0, 0, 15, x5)), (0, (2, 60, 0, 0, 0))] _ _ (xa_subI rfl rfl (fun _ _ _ _ => by omega) (xa_subI rfl rfl (fun _ _ _ _ => by omega) (xa_subR rfl xa_sub0))) ?_
        exact loop4 16 0 x5 M1 (by omega) (by omega) hc hfr (by omega)
      · intro (c1 : x6 < x4)
        refine And.intro (show 0 ≤ x6 ∧ x6 < 15 by omega) ?_
        refine And.intro ?_ ?_
        · intro (c2 : (M1 85 x6) = 1)
          show Q 292 [(6, (0, 0, 1, 16, x6 + 1)), (5, (0, 0, 0, 15, x5)), (4, (0, 0, 0, 15, x4)), (0, (2, 60, 0, 0, 0))] [] M1
          refine hgo.2.1 292 _ [(6, (0, 0, 0, 15, x6 + 1)), (5, (0, 0, 0, 15, x5)), (4, (0, 0, 0, 15, x4)), (0, (2, 60, 0, 0, 0))] _ _ (xa_subI rfl rfl (fun _ _ _ _ => by omega) (xa_subI rfl rfl (fun _ _ _ _ => by omega) (xa_subI rfl rfl (fun _ _ _ _ => by omega) (xa_subR rfl xa_sub0)))) ?_
          exact ih3 (x6 + 1) x5 x4 M1 (by omega) (by omega) (by omega) hc hfr (by omega)
        · intro (c2 : ¬ (M1 85 x6) = 1)
          show xa_wk post (some (0, 0, 0, 0, 0)) M1
          exact xa_wkI 0 rfl (fun _ _ => by omega) (k 0 _ (by omega) hfr)
  have loop1 : ∀ (n : Nat) (x6 x5 x4 : Int) (M1 : xa_M), 0 ≤ x6 ∧ x6 ≤ 15 → 0 ≤ x5 ∧ x5 ≤ 15 → 0 ≤ x4 ∧ x4 ≤ 15 → xm_cor M M1 → xm_fr M M1 → xm_ge M1 85 x4 → xm_ge M1 86 x5 → 15 - x6 < (n : Int) → Q 217 [(6, (0, 0, 0, 15, x6)), (5, (0, 0, 0, 15, x5)), (4, (0, 0, 0, 15, x4)), (0, (2, 60, 0, 0, 0))] [] M1 := by
    intro n
    induction n with
    | zero => intro x6 x5 x4 M1 b6 b5 b4 hc hfr hg85 hg86 hms; omega
    | succ n ih1 =>
      intro x6 x5 x4 M1 b6 b5 b4 hc hfr hg85 hg86 hms1
      obtain ⟨n0, hn0⟩ : ∃ n0, n0 = n := ⟨_, rfl⟩
      have loop2 : ∀ (n : Nat) (x7 x6 x5 x4 : Int) (M1 : xa_M), 0 ≤ x7 ∧ x7 ≤ 15 → 0 ≤ x6 ∧ x6 ≤ 14 → 0 ≤ x5 ∧ x5 ≤ 15 → 0 ≤ x4 ∧ x4 ≤ 15 → xm_cor M M1 → xm_fr M M1 → xm_ge M1 85 x4 → xm_ge M1 86 x5 → x6 < x4 → 14 - x6 < (n0 : Int) → 15 - x7 < (n : Int) → Q 227 [(7, (0, 0, 0, 15, x7)), (6, (0, 0, 0, 14, x6)), (5, (0, 0, 0, 15, x5)), (4, (0, 0, 0, 15, x4)), (0, (2, 60, 0, 0, 0))] [] M1 := by
        intro n
        induction n with
        | zero => intro x7 x6 x5 x4 M1 b7 b6 b5 b4 hc hfr hg85 hg86 h64 h60 hms; omega
        | succ n ih2 =>
          intro x7 x6 x5 x4 M1 b7 b6 b5 b4 hc hfr hg85 hg86 h64 h60 hms2
          have a1 := hg85 x6 (by omega) h64
          have a2 := fun h : x7 < x5 => hg86 x7 (by omega) h
          refine hgo.1 36 [140, 217, 227, 292, 322] 227 _ _ _ ?_
          refine And.intro ?_ ?_
          · intro (c1 : x5 ≤ x7)
            show Q 217 [(6, (0, 0, 1, 15, x6 + 1)), (7, (0, 0, 0, 15, x7)), (5, (0, 0, 0, 15, x5)), (4, (0, 0, 0, 15, x4)), (0, (2, 60, 0, 0, 0))] [] M1
            refine hgo.2.1 217 _ [(6, (0, 0, 0, 15, x6 + 1)), (5, (0, 0, 0, 15, x5)), (4, (0, 0, 0, 15, x4)), (0, (2, 60, 0, 0, 0))] _ _ (xa_subI rfl rfl (fun _ _ _ _ => by omega) (xa_subI rfl rfl (fun _ _ _ _ => by omega) (xa_subI rfl rfl (fun _ _ _ _ => by omega) (xa_subR rfl xa_sub0)))) ?_
            exact ih1 (x6 + 1) x5 x4 M1 (by omega) (by omega) (by omega) hc hfr hg85 hg86 (by omega)
          · intro (c1 : x7 < x5)
            refine And.intro (show 0 ≤ x7 ∧ x7 < 15 by omega) ?_
            show xa_C xm_I A h0 _ 229 [(1, 0, (-9223372036854775808), 9223372036854775807, M1 85 x6), (1, 0, (-9223372036854775808), 9223372036854775807, M1 86 x7)] M1 _
            refine ct_gcd3 (by omega) (by omega) (fun g2 eg2 pg2 qg2 ug2 => ?_)
            have tx := xm_td (x := M1 85 x6) (g := g2) (by omega) (by omega)
            have ty := xm_td (x := M1 86 x7) (g := g2) (by omega) (by omega)
            refine And.intro (show 0 ≤ x7 ∧ x7 < 15 by omega) ?_
            refine And.intro (show 0 ≤ x7 ∧ x7 < 15 by omega) ?_
            show Q 227 [(7, (0, 0, 1, 16, x7 + 1)), (8, (1, 0, 1, 9223372036854775807, g2)), (6, (0, 0, 0, 14, x6)), (5, (0, 0, 0, 15, x5)), (4, (0, 0, 0, 15, x4)), (0, (2, 60, 0, 0, 0))] [] (xa_up (xa_up M1 85 x6 ((M1 85 x6).tdiv g2)) 86 x7 ((M1 86 x7).tdiv g2))
            refine hgo.2.1 227 _ [(7, (0, 0, 0, 15, x7 + 1)), (6, (0, 0, 0, 14, x6)), (5, (0, 0, 0, 15, x5)), (4, (0, 0, 0, 15, x4)), (0, (2, 60, 0, 0, 0))] _ _ (xa_subI rfl rfl (fun _ _ _ _ => by omega) (xa_subI rfl rfl (fun _ _ _ _ => by omega) (xa_subI rfl rfl (fun _ _ _ _ => by omega) (xa_subI rfl rfl (fun _ _ _ _ => by omega) (xa_subR rfl xa_sub0))))) ?_
            exact ih2 (x7 + 1) x6 x5 x4 (xa_up (xa_up M1 85 x6 ((M1 85 x6).tdiv g2)) 86 x7 ((M1 86 x7).tdiv g2)) (by omega) (by omega) (by omega) (by omega) (xm_cor_a rfl (xm_cor_a rfl hc)) (xm_fr_u (by decide) (xm_fr_u (by decide) hfr)) (xm_ge_o (by decide) (xm_ge_i hg85 (by omega))) (xm_ge_i (xm_ge_o (by decide) hg86) (by omega)) (by omega) (by omega) (by omega)
      refine hgo.1 10 [140, 217, 227, 292, 322] 217 _ _ _ ?_
      refine And.intro ?_ ?_
      · intro (c1 : x4 ≤ x6)
        show Q 292 [(6, (0, 0, 0, 0, 0)), (5, (0, 0, 0, 15, x5)), (4, (0, 0, 0, 15, x4)), (0, (2, 60, 0, 0, 0))] [] M1
        refine hgo.2.1 292 _ [(6, (0, 0, 0, 15, 0)), (5, (0, 0, 0, 15, x5)), (4, (0, 0, 0, 15, x4)), (0, (2, 60, 0, 0, 0))] _ _ (xa_subI rfl rfl (fun _ _ _ _ => by omega) (xa_subI rfl rfl (fun _ _ _ _ => by omega) (xa_subI rfl rfl (fun _ _ _ _ => by omega) (xa_subR rfl xa_sub0)))) ?_
        exact loop3 16 0 x5 x4 M1 (by omega) (by omega) (by omega) hc hfr (by omega)
      · intro (c1 : x6 < x4)
        show Q 227 [(7, (0, 0, 0, 0, 0)), (6, (0, 0, 0, 15, x6)), (5, (0, 0, 0, 15, x5)), (4, (0, 0, 0, 15, x4)), (0, (2, 60, 0, 0, 0))] [] M1
        refine hgo.2.1 227 _ [(7, (0, 0, 0, 15, 0)), (6, (0, 0, 0, 14, x6)), (5, (0, 0, 0, 15, x5)), (4, (0, 0, 0, 15, x4)), (0, (2, 60, 0, 0, 0))] _ _ (xa_subI rfl rfl (fun _ _ _ _ => by omega) (xa_subI rfl rfl (fun _ _ _ _ => by omega) (xa_subI rfl rfl (fun _ _ _ _ => by omega) (xa_subI rfl rfl (fun _ _ _ _ => by omega) (xa_subR rfl xa_sub0))))) ?_
        exact loop2 16 0 x6 x5 x4 M1 (by omega) (by omega) (by omega) (by omega) hc hfr hg85 hg86 (by omega) (by omega) (by omega)
  have loop0 : ∀ (n : Nat) (x6 x5 x4 : Int) (M1 : xa_M), 0 ≤ x6 ∧ x6 ≤ 14 → 1 ≤ x5 ∧ x5 ≤ 15 → 1 ≤ x4 ∧ x4 ≤ 15 → xm_cor M M1 → xm_fr M M1 → xm_ge M1 85 x4 → xm_ge M1 86 x5 → x4 ≤ x6 + 1 → x5 ≤ x6 + 1 → 14 - x6 < (n : Int) → Q 140 [(6, (0, 0, 0, 14, x6)), (5, (0, 0, 1, 15, x5)), (4, (0, 0, 1, 15, x4)), (0, (2, 60, 0, 0, 0))] [] M1 := by
    intro n
    induction n with
    | zero => intro x6 x5 x4 M1 b6 b5 b4 hc hfr hg85 hg86 h46 h56 hms; omega
    | succ n ih0 =>
      intro x6 x5 x4 M1 b6 b5 b4 hc hfr hg85 hg86 h46 h56 hms0
      refine hgo.2.2 _ _ _ _ (fun hM1 _ => ?_)
      have b32 := xm_f32 hM1
      have e32 := hfr 60 32 (by decide) (by decide)
      have e84 := hfr 84 x6 (by decide) (by decide)
      have h10 := fun h : x6 < M 60 32 => ht x6 (by omega) h
      refine hgo.1 31 [140, 217, 227, 292, 322] 140 _ _ _ ?_
      refine And.intro ?_ ?_
      · intro (c1 : (M1 60 32) ≤ x6)
        show Q 217 [(6, (0, 0, 0, 0, 0)), (5, (0, 0, 1, 15, x5)), (4, (0, 0, 1, 15, x4)), (0, (2, 60, 0, 0, 0))] [] M1
        refine hgo.2.1 217 _ [(6, (0, 0, 0, 15, 0)), (5, (0, 0, 0, 15, x5)), (4, (0, 0, 0, 15, x4)), (0, (2, 60, 0, 0, 0))] _ _ (xa_subI rfl rfl (fun _ _ _ _ => by omega) (xa_subI rfl rfl (fun _ _ _ _ => by omega) (xa_subI rfl rfl (fun _ _ _ _ => by omega) (xa_subR rfl xa_sub0)))) ?_
        exact loop1 16 0 x5 x4 M1 (by omega) (by omega) (by omega) hc hfr hg85 hg86 (by omega)
      · intro (c1 : x6 < (M1 60 32))
        refine And.intro (show 0 ≤ x6 ∧ x6 < 14 by omega) ?_
        refine And.intro ?_ ?_
        · intro (c2 : (M1 81 x6) ≤ 0)
          refine And.intro (show 0 ≤ x6 ∧ x6 < 14 by omega) ?_
          refine And.intro ?_ ?_
          · intro (c3 : 0 ≤ (M1 81 x6))
            show Q 140 [(6, (0, 0, 1, 15, x6 + 1)), (5, (0, 0, 1, 15, x5)), (4, (0, 0, 1, 15, x4)), (0, (2, 60, 0, 0, 0))] [] M1
            refine hgo.2.1 140 _ [(6, (0, 0, 0, 14, x6 + 1)), (5, (0, 0, 1, 15, x5)), (4, (0, 0, 1, 15, x4)), (0, (2, 60, 0, 0, 0))] _ _ (xa_subI rfl rfl (fun _ _ _ _ => by omega) (xa_subI rfl rfl (fun _ _ _ _ => by omega) (xa_subI rfl rfl (fun _ _ _ _ => by omega) (xa_subR rfl xa_sub0)))) ?_
            exact ih0 (x6 + 1) x5 x4 M1 (by omega) (by omega) (by omega) hc hfr hg85 hg86 (by omega) (by omega) (by omega)
          · intro (c3 : (M1 81 x6) < 0)
            refine And.intro (show 0 ≤ x6 ∧ x6 < 14 by omega) ?_
            refine And.intro (show 0 ≤ x5 ∧ x5 < 15 by omega) ?_
            show Q 140 [(6, (0, 0, 1, 15, x6 + 1)), (5, (0, 0, 2, 16, x5 + 1)), (4, (0, 0, 1, 15, x4)), (0, (2, 60, 0, 0, 0))] [] (xa_up M1 86 x5 (M1 84 x6))
            refine hgo.2.1 140 _ [(6, (0, 0, 0, 14, x6 + 1)), (5, (0, 0, 1, 15, x5 + 1)), (4, (0, 0, 1, 15, x4)), (0, (2, 60, 0, 0, 0))] _ _ (xa_subI rfl rfl (fun _ _ _ _ => by omega) (xa_subI rfl rfl (fun _ _ _ _ => by omega) (xa_subI rfl rfl (fun _ _ _ _ => by omega) (xa_subR rfl xa_sub0)))) ?_
            exact ih0 (x6 + 1) (x5 + 1) x4 (xa_up M1 86 x5 (M1 84 x6)) (by omega) (by omega) (by omega) (xm_cor_a rfl hc) (xm_fr_u (by decide) hfr) (xm_ge_o (by decide) hg85) (xm_ge_s hg86 (by omega)) (by omega) (by omega) (by omega)
        · intro (c2 : 0 < (M1 81 x6))
          refine And.intro (show 0 ≤ x6 ∧ x6 < 14 by omega) ?_
          refine And.intro (show 0 ≤ x4 ∧ x4 < 15 by omega) ?_
          show Q 140 [(6, (0, 0, 1, 15, x6 + 1)), (4, (0, 0, 2, 16, x4 + 1)), (5, (0, 0, 1, 15, x5)), (0, (2, 60, 0, 0, 0))] [] (xa_up M1 85 x4 (M1 84 x6))
          refine hgo.2.1 140 _ [(6, (0, 0, 0, 14, x6 + 1)), (5, (0, 0, 1, 15, x5)), (4, (0, 0, 1, 15, x4 + 1)), (0, (2, 60, 0, 0, 0))] _ _ (xa_subI rfl rfl (fun _ _ _ _ => by omega) (xa_subI rfl rfl (fun _ _ _ _ => by omega) (xa_subI rfl rfl (fun _ _ _ _ => by omega) (xa_subR rfl xa_sub0)))) ?_
          exact ih0 (x6 + 1) x5 (x4 + 1) (xa_up M1 85 x4 (M1 84 x6)) (by omega) (by omega) (by omega) (xm_cor_a rfl hc) (xm_fr_u (by decide) hfr) (xm_ge_s hg85 (by omega)) (xm_ge_o (by decide) hg86) (by omega) (by omega) (by omega)
  refine hgo.1 31 [140, 217, 227, 292, 322] 97 _ _ _ ?_
  show Q 140 [(6, (0, 0, 0, 0, 0)), (5, (0, 0, 1, 1, 0 + 1)), (4, (0, 0, 1, 1, 0 + 1)), (1, (0, 0, 0, 7, p)), (0, (2, 60, 0, 0, 0))] [] (xa_up (xa_up M 85 0 (M 71 p)) 86 0 (M 70 p))
  refine hgo.2.1 140 _ [(6, (0, 0, 0, 14, 0)), (5, (0, 0, 1, 15, 0 + 1)), (4, (0, 0, 1, 15, 0 + 1)), (0, (2, 60, 0, 0, 0))] _ _ (xa_subI rfl rfl (fun _ _ _ _ => by omega) (xa_subI rfl rfl (fun _ _ _ _ => by omega) (xa_subI rfl rfl (fun _ _ _ _ => by omega) (xa_subR rfl xa_sub0)))) ?_
  exact loop0 15 0 (0 + 1) (0 + 1) (xa_up (xa_up M 85 0 (M 71 p)) 86 0 (M 70 p)) (by omega) (by omega) (by omega) (xm_cor_a rfl (xm_cor_a rfl xm_cor_r)) (xm_fr_u (by decide) (xm_fr_u (by decide) (fun _ _ _ _ => rfl))) (xm_ge_o (by decide) (xm_ge_s xm_ge_z (by omega))) (xm_ge_s (xm_ge_o (by decide) xm_ge_z) (by omega)) (by omega) (by omega) (by omega)
end
section
-- doubles that are not NaN
set_option maxRecDepth 20000
/-- a datum that is none of not a number, and fits -/
def fd_ok : FP.Core.Datum → Prop
  | .nan => False
  | .inf _ => True
  | .fin _ c q => c < 9007199254740992 ∧ -1074 ≤ q ∧ q ≤ 971
theorem fd_asm (s : Bool) (e t : Nat) : FP.Core.assemble FP.Core.b64 s e t = (s.toNat * 2048 + e) * 4503599627370496 + t := rfl
theorem fd_enc {d : FP.Core.Datum} (h : fd_ok d) : FP.Core.encode FP.Core.b64 d < 18446744073709551616 ∧ FP.Core.encode FP.Core.b64 d % 9223372036854775808 ≤ 9218868437227405312 := by
  cases d with
  | nan => exact absurd h id
  | inf s =>
    show FP.Core.assemble FP.Core.b64 s 2047 0 < _ ∧ FP.Core.assemble FP.Core.b64 s 2047 0 % _ ≤ _
    rw [fd_asm]
    cases s <;> decide
  | fin s c q =>
    have e1 : FP.Core.Fmt.qmin FP.Core.b64 = -1074 := by decide
    have e2 : FP.Core.Fmt.tails FP.Core.b64 = 4503599627370496 := by decide
    obtain ⟨h1, h2, h3⟩ := h
    have hs : s.toNat ≤ 1 := by cases s <;> decide
    unfold FP.Core.encode
    simp only [e1, e2]
    split
    · rw [fd_asm]
      omega
    · rw [fd_asm]
      omega
theorem fd_rnd (s : Bool) (num den : Nat) (e : Int) : fd_ok (FP.Core.roundRatio FP.Core.b64 s num den e) := by
  have e1 : FP.Core.Fmt.qmin FP.Core.b64 = -1074 := by decide
  have e2 : FP.Core.Fmt.tails FP.Core.b64 = 4503599627370496 := by decide
  have e3 : FP.Core.Fmt.qmax FP.Core.b64 = 971 := by decide
  have e4 : (2 : Nat) ^ FP.Core.b64.p = 9007199254740992 := by decide
  have hb : ∀ (s : Bool) (c : Nat) (q : Int), c < 9007199254740992 → -1074 ≤ q → fd_ok (FP.Core.bound FP.Core.b64 s c q) := by
    intro s c q hc hq
    unfold FP.Core.bound
    rw [e3]
    split
    · rename_i h
      exact ⟨hc, hq, h⟩
    · exact trivial
  unfold FP.Core.roundRatio
  split
  · rw [e1]
    exact ⟨by decide, by decide, by decide⟩
  · unfold FP.Core.roundAt FP.Core.settle
    have hq : -1074 ≤ FP.Core.quantum FP.Core.b64 num den e := by
      unfold FP.Core.quantum
      rw [e1]
      exact Int.le_max_left _ _
    rw [e4, e2]
    split
    · rename_i h
      exact hb _ _ _ h hq
    · exact hb _ _ _ (by decide) (by omega)
theorem fd_n64 {n : Nat} (h1 : n < 18446744073709551616) (h2 : n % 9223372036854775808 ≤ 9218868437227405312) : vf_n64 (UInt64.ofNat n) := by
  unfold vf_n64
  rw [UInt64.le_iff_toNat_le, UInt64.toNat_and]
  have e : (UInt64.ofNat n).toNat = n := by
    rw [UInt64.toNat_ofNat']
    omega
  rw [e]
  show n &&& (2 ^ 63 - 1) ≤ 9218868437227405312
  rw [Nat.and_two_pow_sub_one_eq_mod]
  exact h2
theorem fd_dec {x : UInt64} (h : vf_n64 x) : FP.Core.decode FP.Core.b64 x.toNat ≠ .nan := by
  unfold vf_n64 at h
  rw [UInt64.le_iff_toNat_le, UInt64.toNat_and] at h
  have h : x.toNat &&& (2 ^ 63 - 1) ≤ 9218868437227405312 := h
  rw [Nat.and_two_pow_sub_one_eq_mod] at h
  have hE : FP.Core.fieldE FP.Core.b64 x.toNat = x.toNat / 4503599627370496 % 2048 := rfl
  have hT : FP.Core.fieldT FP.Core.b64 x.toNat = x.toNat % 4503599627370496 := rfl
  unfold FP.Core.decode
  split
  · rename_i c
    rw [hE] at c
    have c : x.toNat / 4503599627370496 % 2048 = 2047 := c
    split
    · simp
    · rename_i c2
      rw [hT] at c2
      omega
  · split <;> simp
theorem fd_mul {x y : UInt64} {t : Bool} {d : Nat} {r : Int} (hx : vf_n64 x) (hy : FP.Core.decode FP.Core.b64 y.toNat = .fin t d r) (hd : d ≠ 0) : vf_n64 (FP.dmul x y) := by
  have hx := fd_dec hx
  have k : fd_ok (FP.Core.round FP.Core.b64 (FP.Core.exactProduct (FP.Core.decode FP.Core.b64 x.toNat) (FP.Core.decode FP.Core.b64 y.toNat))) := by
    rw [hy]
    cases e : FP.Core.decode FP.Core.b64 x.toNat with
    | nan => exact absurd e hx
    | inf s =>
      show fd_ok (FP.Core.round FP.Core.b64 (if d = 0 then .nan else .inf (s != t)))
      rw [if_neg hd]
      exact trivial
    | fin s c q => exact fd_rnd _ _ _ _
  exact fd_n64 (fd_enc k).1 (fd_enc k).2
theorem fd_div {x y : UInt64} {t : Bool} {d : Nat} {r : Int} (hx : vf_n64 x) (hy : FP.Core.decode FP.Core.b64 y.toNat = .fin t d r) (hd : d ≠ 0) : vf_n64 (FP.ddiv x y) := by
  have hx := fd_dec hx
  have k : fd_ok (FP.Core.quotient FP.Core.b64 (FP.Core.decode FP.Core.b64 x.toNat) (FP.Core.decode FP.Core.b64 y.toNat)) := by
    rw [hy]
    cases e : FP.Core.decode FP.Core.b64 x.toNat with
    | nan => exact absurd e hx
    | inf s => exact trivial
    | fin s c q =>
      show fd_ok (if d = 0 then (if c = 0 then .nan else .inf (s != t)) else FP.Core.roundRatio FP.Core.b64 (s != t) c d (q - r))
      rw [if_neg hd]
      exact fd_rnd _ _ _ _
  exact fd_n64 (fd_enc k).1 (fd_enc k).2
theorem fd_i2d (a : Int32) : vf_n64 (FP.i2d a) := by
  have k : fd_ok (FP.Core.round FP.Core.b64 (FP.Core.ofInt a.toInt)) := fd_rnd _ _ _ _
  exact fd_n64 (fd_enc k).1 (fd_enc k).2
def fd_chk (n : Nat) : Bool := Nat.beq n 0 || (match FP.Core.decode FP.Core.b64 (UInt64.ofNat (FP.Core.fromInt FP.Core.b64 (n : Int))).toNat with
  | .fin _ d _ => !(Nat.beq d 0)
  | _ => false)
theorem fd_chk_all : (List.range 2001).all fd_chk = true := by decide +kernel
theorem fd_int {a : Int32} (h1 : 1 ≤ a.toInt) (h2 : a.toInt ≤ 2000) : ∃ t d r, FP.Core.decode FP.Core.b64 (FP.i2d a).toNat = .fin t d r ∧ d ≠ 0 := by
  have hm : a.toInt.toNat ∈ List.range 2001 := List.mem_range.2 (by omega)
  have h := List.all_eq_true.1 fd_chk_all _ hm
  unfold fd_chk at h
  rw [Bool.or_eq_true] at h
  rcases h with h | h
  · have := Nat.eq_of_beq_eq_true h
    omega
  · rw [show ((a.toInt.toNat : Nat) : Int) = a.toInt from Int.toNat_of_nonneg (by omega)] at h
    have h : (match FP.Core.decode FP.Core.b64 (FP.i2d a).toNat with
      | .fin _ d _ => !(Nat.beq d 0)
      | _ => false) = true := h
    cases e : FP.Core.decode FP.Core.b64 (FP.i2d a).toNat with
    | nan =>
      rw [e] at h
      exact absurd h (by decide)
    | inf s =>
      rw [e] at h
      exact absurd h (by simp)
    | fin s d r =>
      rw [e] at h
      refine ⟨s, d, r, rfl, fun z => ?_⟩
      subst z
      have h : (false : Bool) = true := h
      exact absurd h (by decide)
end
section
-- doubles in the machine over numbers
section XD1
variable {CALL : Nat → List Value → g_H → Nat → Nat → (Option Value → g_H → Prop) → Prop} {cc : ByteArray} {o nL : Nat} {ini : Bool} {bc bs : Nat} {P : g_S → Prop}
variable {I : xa_I} {A : Nat → Nat} {h0 : g_H}
/-- a number above 0 -/
def fd_pos (m : UInt64) : Prop := ∃ t d r, FP.Core.decode FP.Core.b64 m.toNat = .fin t d r ∧ d ≠ 0
abbrev xd_v (m : UInt64) : xa_V := (5, 0, 0, 0, (m.toNat : Int))
/-- what else may be used of a state's predicate where there are doubles -/
def xd_go (o nL : Nat) (full : List s_I) (Q : xa_Q) : Prop :=
  (∀ (pc kd a b : Nat) (v : Int) (t : List s_I) (L : xa_L) (rest : List xa_V) (M : xa_M) (p : Nat) (lo hi n : Int), s_jump full pc = some ((pc, 1, 60, kd, a, b, v, .i2d) :: t) → (∀ m : UInt64, vf_n64 m → (1 ≤ n → n ≤ 2000 → fd_pos m) → Q (pc + 1) L (xd_v m :: rest) M) → Q pc L ((0, p, lo, hi, n) :: rest) M) ∧
  (∀ (pc kd a b : Nat) (v : Int) (t : List s_I) (L : xa_L) (rest : List xa_V) (M : xa_M) (x y : UInt64), s_jump full pc = some ((pc, 1, 60, kd, a, b, v, .ddiv) :: t) → vf_n64 x → fd_pos y → (∀ m : UInt64, vf_n64 m → Q (pc + 1) L (xd_v m :: rest) M) → Q pc L (xd_v y :: xd_v x :: rest) M) ∧
  (∀ (pc kd a b : Nat) (v : Int) (t : List s_I) (L : xa_L) (rest : List xa_V) (M : xa_M) (x y : UInt64), s_jump full pc = some ((pc, 1, 60, kd, a, b, v, .dmul) :: t) → vf_n64 x → fd_pos y → (∀ m : UInt64, vf_n64 m → Q (pc + 1) L (xd_v m :: rest) M) → Q pc L (xd_v y :: xd_v x :: rest) M) ∧
  (∀ (pc kd a b : Nat) (v : Int) (t : List s_I) (L : xa_L) (rest : List xa_V) (M : xa_M) (x y : UInt64) (op : ClassFile.CmpOp), s_jump full pc = some ((pc, 1, 60, kd, a, b, v, .dcmp op) :: t) → (∀ n : Int, Q (pc + 1) L ((0, 0, -2147483648, 2147483647, n) :: rest) M) → Q pc L (xd_v y :: xd_v x :: rest) M) ∧
  (∀ (pc kd a b : Nat) (v : Int) (t : List s_I) (L : xa_L) (rest : List xa_V) (M : xa_M) (x : UInt64) (k : Fin 4), s_jump full pc = some ((pc, 1, 60, kd, a, b, v, .dstore_n k) :: t) → k + 1 < nL → Q (pc + 1) ((k, xd_v x) :: xa_fil2 k L) rest M → Q pc L (xd_v x :: rest) M) ∧
  (∀ (pc kd a b : Nat) (v : Int) (t : List s_I) (L : xa_L) (rest : List xa_V) (M : xa_M) (x : UInt64) (k : Fin 4), s_jump full pc = some ((pc, 1, 60, kd, a, b, v, .dload_n k) :: t) → xa_find L k = some (xd_v x) → Q (pc + 1) L (xd_v x :: rest) M → Q pc L rest M) ∧
  (∀ (pc kd a b : Nat) (v : Int) (t : List s_I) (L : xa_L) (rest : List xa_V) (M : xa_M) (i a0 b0 : Nat) (w : Int) (ps : List Nat), s_jump full pc = some ((pc, 3, 60, kd, a, b, v, .ldc2_w i) :: t) → (o, i, 12, a0, b0, w, ps) ∈ g_lk → (∀ m : UInt64, Q (pc + 3) L (xd_v m :: rest) M) → Q pc L rest M)
theorem xd_dec {full t : List s_I} {pc len kd a b : Nat} {v : Int} {ins : Instr} (hfull : ∀ r ∈ full, s_okI cc o r = true) (hj : s_jump full pc = some ((pc, len, 60, kd, a, b, v, ins) :: t)) : decode cc pc = .ok (ins, len) := by
  have hI := hfull _ (s_jump_in hj _ List.mem_cons_self)
  unfold s_okI at hI
  rw [Bool.and_eq_true] at hI
  obtain ⟨h1, -⟩ := hI
  split at h1
  next i n e =>
    simp only [Bool.and_eq_true, decide_eq_true_eq, Nat.beq_eq] at h1
    obtain ⟨rfl, rfl, -⟩ := h1
    exact e
  next => cases h1
theorem xd_val {m : UInt64} {x : Value} (h : xa_g A (xd_v m) x) : x = .double m := by
  obtain ⟨z, e, hz⟩ := h
  have : z = m := UInt64.toNat_inj.mp (by omega)
  rw [e, this]
theorem xd_valI {m : UInt64} : xa_g A (xd_v m) (.double m) := ⟨m, rfl, rfl⟩
theorem xd_go_ok (hcl : ∀ S, g_pre CALL o nL ini bc bs cc P S → P S) {full : List s_I} (hfull : ∀ r ∈ full, s_okI cc o r = true) : xd_go o nL full (xa_P P I A h0) := by
  refine ⟨?_, ?_, ?_, ?_, ?_, ?_, ?_⟩
  · intro pc kd a b v t L rest M p lo hi n hj k h Ls sts hH hL hS
    obtain ⟨x, xs, rfl, hg, hS'⟩ := xa_gS_cons hS
    obtain ⟨z, rfl, z1, z2, z3⟩ := hg
    exact hcl _ ⟨_, _, xd_dec hfull hj, Or.inr (Or.inl (Or.inr (Or.inr (Or.inr (Or.inr (Or.inr (Or.inr (Or.inr (Or.inr (Or.inr (Or.inl ⟨_, _, rfl, rfl, rfl, k (FP.i2d z) (fd_i2d z) (fun a1 a2 => fd_int (by omega) (by omega)) h Ls _ hH hL ⟨xd_valI, hS'⟩⟩)))))))))))⟩
  · intro pc kd a b v t L rest M x y hj hx hy k h Ls sts hH hL hS
    obtain ⟨y', ys, rfl, hg, hS'⟩ := xa_gS_cons hS
    obtain ⟨x', xs, rfl, hg2, hS2⟩ := xa_gS_cons hS'
    rw [xd_val hg, xd_val hg2]
    obtain ⟨t1, d1, r1, e1, e2⟩ := hy
    have hv := fd_div hx e1 e2
    exact hcl _ ⟨_, _, xd_dec hfull hj, Or.inr (Or.inl (Or.inr (Or.inr (Or.inr (Or.inr (Or.inr (Or.inr (Or.inr (Or.inr (Or.inr (Or.inr (Or.inl ⟨_, _, _, rfl, rfl, hv, rfl, k _ hv h Ls _ hH hL ⟨xd_valI, hS2⟩⟩))))))))))))⟩
  · intro pc kd a b v t L rest M x y hj hx hy k h Ls sts hH hL hS
    obtain ⟨y', ys, rfl, hg, hS'⟩ := xa_gS_cons hS
    obtain ⟨x', xs, rfl, hg2, hS2⟩ := xa_gS_cons hS'
    rw [xd_val hg, xd_val hg2]
    obtain ⟨t1, d1, r1, e1, e2⟩ := hy
    have hv := fd_mul hx e1 e2
    exact hcl _ ⟨_, _, xd_dec hfull hj, Or.inr (Or.inl (Or.inr (Or.inr (Or.inr (Or.inr (Or.inr (Or.inr (Or.inr (Or.inr (Or.inr (Or.inr (Or.inr (Or.inl ⟨_, _, _, rfl, rfl, hv, rfl, k _ hv h Ls _ hH hL ⟨xd_valI, hS2⟩⟩)))))))))))))⟩
  · intro pc kd a b v t L rest M x y op hj k h Ls sts hH hL hS
    obtain ⟨y', ys, rfl, hg, hS'⟩ := xa_gS_cons hS
    obtain ⟨x', xs, rfl, hg2, hS2⟩ := xa_gS_cons hS'
    rw [xd_val hg, xd_val hg2]
    refine hcl _ ⟨_, _, xd_dec hfull hj, Or.inr (Or.inl (Or.inr (Or.inr (Or.inr (Or.inr (Or.inr (Or.inr (Or.inr (Or.inr (Or.inr (Or.inr (Or.inr (Or.inr ⟨_, _, _, _, rfl, rfl, rfl, k _ h Ls _ hH hL ⟨⟨_, rfl, rfl, Int32.le_toInt _, ?_⟩, hS2⟩⟩)))))))))))))⟩
    have := Int32.toInt_lt (Op.cmpValue (FP.dcmp x y) op)
    omega
  · intro pc kd a b v t L rest M x k hj hk kk h Ls sts hH hL hS
    obtain ⟨x', xs, rfl, hg2, hS2⟩ := xa_gS_cons hS
    rw [xd_val hg2]
    exact hcl _ ⟨_, _, xd_dec hfull hj, Or.inl (Or.inr (Or.inr (Or.inr (Or.inl ⟨k, _, _, _, rfl, rfl, rfl, hk, kk h _ _ hH (xa_gL_st2 hL xd_valI) hS2⟩))))⟩
  · intro pc kd a b v t L rest M x k hj hf kk h Ls sts hH hL hS
    obtain ⟨z, hz, hg⟩ := hL _ (xa_find_in hf)
    have e := xd_val hg
    subst e
    exact hcl _ ⟨_, _, xd_dec hfull hj, Or.inl (Or.inr (Or.inl ⟨k, _, _, rfl, hz, rfl, kk h _ _ hH hL ⟨xd_valI, hS⟩⟩))⟩
  · intro pc kd a b v t L rest M i a0 b0 w ps hj hl kk h Ls sts hH hL hS
    exact hcl _ ⟨_, _, xd_dec hfull hj, Or.inl (Or.inr (Or.inr (Or.inr (Or.inr (Or.inr (Or.inr (Or.inr (Or.inr (Or.inr (Or.inr (Or.inr ⟨i, 12, a0, b0, w, ps, rfl, rfl, Or.inr rfl, hl, kk (UInt64.ofNat w.toNat) h _ _ hH hL ⟨xd_valI, hS⟩⟩)))))))))))⟩
end XD1
theorem xd_meth {I : xa_I} {A : Nat → Nat} {h0 : g_H} {d j : Nat} {Q0 : s_MI} (hq : s_mi[j]? = some Q0) (hz : Q0.2.2.2.1 = 0 ∧ Q0.2.2.2.2.1 = 0) {full : List s_I} (hfu : s_codes.getD j [] = full) {vs : List xa_V} {M : xa_M} {post : Option xa_V → xa_M → Prop} (hlen : Nat.ble (xa_sum vs) Q0.1 = true)
    (body : xa_Mok I M → (∀ v ∈ vs, xa_vok v) → ∀ Q : xa_Q, xa_go I (xa_C I A h0 d) post full Q0.1 Q0.2.1 Q → xd_go Q0.2.2.2.2.2 Q0.1 full Q → Q 0 (xa_args 0 vs) [] M) : xa_C I A h0 (d + 1) j vs M post := by
  intro h xs hH hA post' hpost
  obtain ⟨m1, m2, m3, m4, m5⟩ := s_mi_ok j Q0 hq
  obtain ⟨c1, c2⟩ := s_codes_ok j Q0 hq
  rw [hfu] at c1 c2
  refine ⟨m1, by rw [m2, xa_slA hA]; exact Nat.le_of_ble_eq_true hlen, ?_⟩
  rw [m5, m2, m4]
  intro P hend hcl
  have hvs : ∀ {vs : List xa_V} {xs : List Value}, xa_gS A vs xs → ∀ v ∈ vs, xa_vok v := by
    intro vs
    induction vs with
    | nil => intro xs _ v hv; cases hv
    | cons w ws ih =>
      intro xs hS v hv
      obtain ⟨x, ys, rfl, hg, hS'⟩ := xa_gS_cons hS
      rcases List.mem_cons.mp hv with rfl | hv
      · exact fun hk => xa_num hk hg
      · exact ih hS' v hv
  have hgo : xa_go I (xa_C I A h0 d) post full Q0.1 Q0.2.1 (xa_P P I A h0) := by
    refine ⟨fun n cuts pc L st M e => ?_, fun pc L L' st M e hQ h Ls sts hH hL hS => hQ h Ls sts hH (xa_sub_ok e hL) hS, fun pc L st M hQ h Ls sts hH hL hS => hQ (xa_H_Mok hH) (fun p hp hk => ?_) h Ls sts hH hL hS⟩
    · exact xa_jp_ok c2 e (xa_wp_ok hcl s_ft_ok (fun j q hq => s_mi_ok j q hq) (fun j vs M post hc h xs hH hA post' hp => hc h xs hH hA post' hp) c2 m3 hend hpost n)
    · obtain ⟨x, -, hg⟩ := hL p hp
      exact xa_num hk hg
  exact body (xa_H_Mok hH) (hvs hA) _ hgo (xd_go_ok hcl c2) h (lv_args 0 xs) [] hH (xa_args_ok hA) trivial
end
section
-- isFitting of the model is safe
set_option maxRecDepth 20000
theorem xd_subD {L L' : xa_L} {i : Nat} {v : xa_V} (e : xa_find L i = some v) (hv : v.1 = 5) (t : xa_sub L' L) : xa_sub ((i, v) :: L') L := by
  refine ⟨?_, t⟩
  rw [e]
  obtain ⟨k, r⟩ := v
  have hk : k = 5 := hv
  subst hk
  exact rfl
theorem xd_lk1 : ∃ ps, (12, 245, 12, 0, 0, 4607182409792818153, ps) ∈ g_lk := by
  have h : g_lk.any (fun r => Nat.beq r.1 12 && (Nat.beq r.2.1 245 && (Nat.beq r.2.2.1 12 && (Nat.beq r.2.2.2.1 0 && (Nat.beq r.2.2.2.2.1 0 && decide (r.2.2.2.2.2.1 = 4607182409792818153)))))) = true := by decide +kernel
  obtain ⟨q, hm, e⟩ := List.any_eq_true.mp h
  obtain ⟨w1, w2, w3, w4, w5, w6, w7⟩ := q
  simp only [Bool.and_eq_true, Nat.beq_eq, decide_eq_true_eq] at e
  obtain ⟨rfl, rfl, rfl, rfl, rfl, rfl⟩ := e
  exact ⟨w7, hm⟩
theorem xd_lk2 : ∃ ps, (12, 247, 12, 0, 0, 4607182423303617035, ps) ∈ g_lk := by
  have h : g_lk.any (fun r => Nat.beq r.1 12 && (Nat.beq r.2.1 247 && (Nat.beq r.2.2.1 12 && (Nat.beq r.2.2.2.1 0 && (Nat.beq r.2.2.2.2.1 0 && decide (r.2.2.2.2.2.1 = 4607182423303617035)))))) = true := by decide +kernel
  obtain ⟨q, hm, e⟩ := List.any_eq_true.mp h
  obtain ⟨w1, w2, w3, w4, w5, w6, w7⟩ := q
  simp only [Bool.and_eq_true, Nat.beq_eq, decide_eq_true_eq] at e
  obtain ⟨rfl, rfl, rfl, rfl, rfl, rfl⟩ := e
  exact ⟨w7, hm⟩
theorem xm_fd_ok : xm_fd := by
  intro A h0 d M post l u p hI hW hF p0 p1 k
  refine xa_C_asm (fun hM _ => ?_)
  have b11 := xm_f11 hM
  have b32 := xm_f32 hM
  have hpp := hI.2.2.1 p p0 p1
  have hsp : ∀ i, 0 ≤ i → i < M 60 32 → 10 ≤ M 84 i ∧ M 84 i ≤ 400 := fun i i0 i1 => by
    have h1 := xm_way_sp hM hI hW i i0 i1
    have h2 := hF i i0 i1
    have h3 := xm_t84 hM i i0 (by omega)
    omega
  refine xa_C_arg [(2, 60, 0, 0, 0), (0, 0, 0, 7, p)] (xa_svR (xa_svI (fun _ _ _ _ => by omega) xa_sv0)) ?_
  refine xa_C_wk (xd_meth (post := xa_wk post) (Q0 := (10, 2, false, 0, 0, 12)) (by decide +kernel) ⟨rfl, rfl⟩ (full := s_c_242) rfl rfl ?_)
  intro _ _ Q hgo hx
  obtain ⟨hi2d, hdiv, hmul, hcmp, hst, hld, hldc⟩ := hx
  obtain ⟨ps1, hk1⟩ := xd_lk1
  obtain ⟨ps2, hk2⟩ := xd_lk2
  have q97 : Q 97 [(1, (0, 0, 0, 7, p)), (0, (2, 60, 0, 0, 0))] [] M := xm_if97 hM hI (fun i i0 i1 => (hsp i i0 i1).1) p0 p1 k hgo
  have q79 : ∀ x : UInt64, Q 79 [(2, xd_v x), (1, (0, 0, 0, 7, p)), (0, (2, 60, 0, 0, 0))] [] M := by
    intro x
    refine hld 79 _ _ _ _ _ _ _ _ x 2 rfl rfl ?_
    refine hldc 80 _ _ _ _ _ _ _ _ 245 0 0 4607182409792818153 ps1 rfl hk1 (fun m => ?_)
    refine hcmp 83 _ _ _ _ _ _ _ _ x m _ rfl (fun n => ?_)
    refine hgo.1 6 [87] 84 _ _ _ ?_
    refine And.intro ?_ ?_
    · intro _
      show xa_wk post (some (0, 0, 0, 0, 0)) M
      exact xa_wkI 0 rfl (fun _ _ => by omega) (k 0 _ (by omega) (fun _ _ _ _ => rfl))
    · intro _
      show Q 87 [(2, xd_v x), (1, (0, 0, 0, 7, p)), (0, (2, 60, 0, 0, 0))] [] M
      refine hld 87 _ _ _ _ _ _ _ _ x 2 rfl rfl ?_
      refine hldc 88 _ _ _ _ _ _ _ _ 247 0 0 4607182423303617035 ps2 rfl hk2 (fun m => ?_)
      refine hcmp 91 _ _ _ _ _ _ _ _ x m _ rfl (fun n => ?_)
      refine hgo.1 6 [97] 92 _ _ _ ?_
      refine And.intro ?_ ?_
      · intro _
        show Q 97 [(2, xd_v x), (1, (0, 0, 0, 7, p)), (0, (2, 60, 0, 0, 0))] [] M
        exact hgo.2.1 97 _ _ _ _ (xa_subI rfl rfl (fun _ _ _ _ => by omega) (xa_subR rfl xa_sub0)) q97
      · intro _
        show xa_wk post (some (0, 0, 0, 0, 0)) M
        exact xa_wkI 0 rfl (fun _ _ => by omega) (k 0 _ (by omega) (fun _ _ _ _ => rfl))
  have loop : ∀ (n : Nat) (x4 : Int) (x : UInt64), 0 ≤ x4 ∧ x4 ≤ 14 → vf_n64 x → 14 - x4 < (n : Int) → Q 19 [(4, (0, 0, 0, 14, x4)), (2, xd_v x), (1, (0, 0, 0, 7, p)), (0, (2, 60, 0, 0, 0))] [] M := by
    intro n
    induction n with
    | zero => intro x4 x b4 _ hms; omega
    | succ n ih =>
      intro x4 x b4 hx hms
      have h10 := fun h : x4 < M 60 32 => hsp x4 (by omega) h
      refine hgo.1 20 [19, 38, 62, 79] 19 _ _ _ ?_
      refine And.intro ?_ ?_
      · intro _
        show Q 79 [(4, (0, 0, 0, 14, x4)), (2, xd_v x), (1, (0, 0, 0, 7, p)), (0, (2, 60, 0, 0, 0))] [] M
        exact hgo.2.1 79 _ _ _ _ (xd_subD rfl rfl (xa_subI rfl rfl (fun _ _ _ _ => by omega) (xa_subR rfl xa_sub0))) (q79 x)
      · intro (c1 : x4 < M 60 32)
        have h10 := h10 c1
        refine And.intro (show 0 ≤ x4 ∧ x4 < 14 by omega) ?_
        refine And.intro ?_ ?_
        · intro _
          refine And.intro (show 0 ≤ x4 ∧ x4 < 14 by omega) ?_
          refine And.intro ?_ ?_
          · intro _
            show Q 19 [(4, (0, 0, 1, 15, x4 + 1)), (2, xd_v x), (1, (0, 0, 0, 7, p)), (0, (2, 60, 0, 0, 0))] [] M
            refine hgo.2.1 19 _ _ _ _ (xa_subI rfl rfl (fun _ _ _ _ => by omega) (xd_subD rfl rfl (xa_subI rfl rfl (fun _ _ _ _ => by omega) (xa_subR rfl xa_sub0)))) (ih (x4 + 1) x (by omega) hx (by omega))
          · intro _
            show Q 62 [(4, (0, 0, 0, 14, x4)), (2, xd_v x), (1, (0, 0, 0, 7, p)), (0, (2, 60, 0, 0, 0))] [] M
            refine hld 62 _ _ _ _ _ _ _ _ x 2 rfl rfl ?_
            refine hgo.1 8 [70] 63 _ _ _ ?_
            refine And.intro (show 0 ≤ x4 ∧ x4 < 14 by omega) ?_
            show Q 70 [(4, (0, 0, 0, 14, x4)), (2, xd_v x), (1, (0, 0, 0, 7, p)), (0, (2, 60, 0, 0, 0))] [(0, 0, 0, 400, M 84 x4), xd_v x] M
            refine hi2d 70 _ _ _ _ _ _ _ _ _ _ _ _ rfl (fun m hm hm2 => ?_)
            refine hdiv 71 _ _ _ _ _ _ _ _ x m rfl hx (hm2 (by omega) (by omega)) (fun y hy => ?_)
            refine hst 72 _ _ _ _ _ _ _ _ y 2 rfl (show 2 + 1 < 10 by decide) ?_
            refine hgo.1 6 [19] 73 _ _ _ ?_
            show Q 19 [(4, (0, 0, 1, 15, x4 + 1)), (2, xd_v y), (1, (0, 0, 0, 7, p)), (0, (2, 60, 0, 0, 0))] [] M
            refine hgo.2.1 19 _ _ _ _ (xa_subI rfl rfl (fun _ _ _ _ => by omega) (xd_subD rfl rfl (xa_subI rfl rfl (fun _ _ _ _ => by omega) (xa_subR rfl xa_sub0)))) (ih (x4 + 1) y (by omega) hy (by omega))
        · intro _
          show Q 38 [(4, (0, 0, 0, 14, x4)), (2, xd_v x), (1, (0, 0, 0, 7, p)), (0, (2, 60, 0, 0, 0))] [] M
          refine hld 38 _ _ _ _ _ _ _ _ x 2 rfl rfl ?_
          refine hgo.1 8 [46] 39 _ _ _ ?_
          refine And.intro (show 0 ≤ x4 ∧ x4 < 14 by omega) ?_
          show Q 46 [(4, (0, 0, 0, 14, x4)), (2, xd_v x), (1, (0, 0, 0, 7, p)), (0, (2, 60, 0, 0, 0))] [(0, 0, 0, 400, M 84 x4), xd_v x] M
          refine hi2d 46 _ _ _ _ _ _ _ _ _ _ _ _ rfl (fun m hm hm2 => ?_)
          refine hmul 47 _ _ _ _ _ _ _ _ x m rfl hx (hm2 (by omega) (by omega)) (fun y hy => ?_)
          refine hst 48 _ _ _ _ _ _ _ _ y 2 rfl (show 2 + 1 < 10 by decide) ?_
          refine hgo.1 6 [19] 49 _ _ _ ?_
          show Q 19 [(4, (0, 0, 1, 15, x4 + 1)), (2, xd_v y), (1, (0, 0, 0, 7, p)), (0, (2, 60, 0, 0, 0))] [] M
          refine hgo.2.1 19 _ _ _ _ (xa_subI rfl rfl (fun _ _ _ _ => by omega) (xd_subD rfl rfl (xa_subI rfl rfl (fun _ _ _ _ => by omega) (xa_subR rfl xa_sub0)))) (ih (x4 + 1) y (by omega) hy (by omega))
  refine hgo.1 8 [6] 0 _ _ _ ?_
  show Q 6 [(0, (2, 60, 0, 0, 0)), (1, (0, 0, 0, 7, p))] [(0, 0, 0, 2000, M 71 p)] M
  have t70 := xm_t70 hM p p0 (by omega)
  have t71 := xm_t71 hM p p0 (by omega)
  refine hi2d 6 _ _ _ _ _ _ _ _ _ _ _ _ rfl (fun m1 v1 w1 => ?_)
  refine hgo.1 8 [13] 7 _ _ _ ?_
  show Q 13 [(0, (2, 60, 0, 0, 0)), (1, (0, 0, 0, 7, p))] [(0, 0, 0, 2000, M 70 p), xd_v m1] M
  refine hi2d 13 _ _ _ _ _ _ _ _ _ _ _ _ rfl (fun m2 v2 w2 => ?_)
  refine hdiv 14 _ _ _ _ _ _ _ _ m1 m2 rfl v1 (w2 (by omega) (by omega)) (fun y hy => ?_)
  refine hst 15 _ _ _ _ _ _ _ _ y 2 rfl (show 2 + 1 < 10 by decide) ?_
  refine hgo.1 6 [19] 16 _ _ _ ?_
  show Q 19 [(4, (0, 0, 0, 0, 0)), (2, xd_v y), (0, (2, 60, 0, 0, 0)), (1, (0, 0, 0, 7, p))] [] M
  exact hgo.2.1 19 _ _ _ _ (xa_subI rfl rfl (fun _ _ _ _ => by omega) (xd_subD rfl rfl (xa_subI rfl rfl (fun _ _ _ _ => by omega) (xa_subR rfl xa_sub0)))) (loop 15 0 y (by omega) hy (by omega))
end
section
-- who stands in whose way: the model's answers
set_option maxRecDepth 20000
def xm_near (M : xa_M) (a b : Int) : Prop := ¬ M 64 a = M 64 b ∧ (M 68 (M 64 a) - M 68 (M 64 b)) * (M 68 (M 64 a) - M 68 (M 64 b)) + (M 69 (M 64 a) - M 69 (M 64 b)) * (M 69 (M 64 a) - M 69 (M 64 b)) < (M 63 a + M 63 b) * (M 63 a + M 63 b)
def xm_inw (M : xa_M) (a b : Int) : Prop := M 64 a = M 64 b ∨ (xm_near M a b ∧ ¬ xm_meshed M a b)
theorem xm_meshed_s {M : xa_M} {a b : Int} (h : xm_meshed M a b) : xm_meshed M b a := by
  obtain ⟨m, m0, m1, h⟩ := h
  exact ⟨m, m0, m1, h.symm⟩
theorem xm_near_s {M : xa_M} {a b : Int} (h : xm_near M a b) : xm_near M b a := by
  obtain ⟨h1, h2⟩ := h
  refine ⟨fun e => h1 e.symm, ?_⟩
  have sq : ∀ x y : Int, (x - y) * (x - y) = (y - x) * (y - x) := fun x y => by
    rw [← Int.neg_sub y x, Int.neg_mul_neg]
  rw [sq (M 68 (M 64 b)), sq (M 69 (M 64 b)), Int.add_comm (M 63 b)]
  exact h2
theorem xm_inw_s {M : xa_M} {a b : Int} (h : xm_inw M a b) : xm_inw M b a := by
  rcases h with h | ⟨h1, h2⟩
  · exact Or.inl h.symm
  · exact Or.inr ⟨xm_near_s h1, fun e => h2 (xm_meshed_s e)⟩
theorem xm_inw_c {M M1 : xa_M} {a b : Int} (h : xm_cor M M1) : xm_inw M1 a b ↔ xm_inw M a b := by
  have e6 := xm_corf h 6 (by omega)
  have e63 := xm_corq h 63 rfl
  have e64 := xm_corq h 64 rfl
  have e66 := xm_corq h 66 rfl
  have e67 := xm_corq h 67 rfl
  have e68 := xm_corq h 68 rfl
  have e69 := xm_corq h 69 rfl
  unfold xm_inw xm_near xm_meshed
  simp only [e6, e63, e64, e66, e67, e68, e69]
theorem ct_areNearF {A : Nat → Nat} {h0 : g_H} {d : Nat} {M : xa_M} {post : Option xa_V → xa_M → Prop} {l1 u1 l2 u2 : Int} {a b : Int} (ha0 : 0 ≤ a) (ha1 : a ≤ 13) (hb0 : 0 ≤ b) (hb1 : b ≤ 13) (k : ∀ r : Int, (r = 0 ∨ r = 1) → (r = 1 ↔ xm_near M a b) → post (some (0, 0, 0, 1, r)) M) : xa_C xm_I A h0 (d + 2) 264 [(2, 60, 0, 0, 0), (0, 0, l1, u1, a), (0, 0, l2, u2, b)] M post := by
  refine xa_C_arg [(2, 60, 0, 0, 0), (0, 0, 0, 13, a), (0, 0, 0, 13, b)] (xa_svR (xa_svI (fun _ _ _ _ => by omega) (xa_svI (fun _ _ _ _ => by omega) xa_sv0))) (xa_C_wk ?_)
  refine xa_meth (Q0 := (4, 2, false, 0, 0, 12)) (by decide +kernel) ⟨rfl, rfl⟩ (full := s_c_264) rfl rfl ?_
  intro hM hv Q hgo
  have x1 := xm_t64 hM a (by omega) (by omega)
  have x2 := xm_t64 hM b (by omega) (by omega)
  refine hgo.1 40 [] 0 _ _ _ ?_
  refine And.intro ?_ ?_
  · intro (c1 : (M 64 a) = (M 64 b))
    show xa_wk post (some (0, 0, 0, 0, 0)) M
    exact xa_wkI 0 rfl (fun _ _ => by omega) (k 0 (by omega) ⟨fun e => by omega, fun e => absurd c1 e.1⟩)
  · intro (c1 : ¬ (M 64 a) = (M 64 b))
    show xa_C xm_I A h0 _ 265 [(2, 60, 0, 0, 0), (0, 0, 0, 9, M 64 a), (0, 0, 0, 9, M 64 b)] M _
    refine ct_apart (by omega) (by omega) (by omega) (by omega) (fun r2 br2 => ?_)
    refine And.intro ?_ ?_
    · intro (c3 : (((M 63 a) + (M 63 b)) * ((M 63 a) + (M 63 b))) ≤ r2)
      show xa_wk post (some (0, 0, 0, 0, 0)) M
      refine xa_wkI 0 rfl (fun _ _ => by omega) (k 0 (by omega) ⟨fun e => by omega, fun e => ?_⟩)
      have e2 := e.2
      rw [← br2] at e2
      exact absurd e2 (Int.not_lt.mpr c3)
    · intro (c3 : r2 < (((M 63 a) + (M 63 b)) * ((M 63 a) + (M 63 b))))
      show xa_wk post (some (0, 0, 1, 1, 1)) M
      exact xa_wkI 1 rfl (fun _ _ => by omega) (k 1 (by omega) ⟨fun _ => ⟨c1, by rw [← br2]; exact c3⟩, fun _ => rfl⟩)
theorem ct_areInWay {A : Nat → Nat} {h0 : g_H} {d : Nat} {M : xa_M} {post : Option xa_V → xa_M → Prop} {l1 u1 l2 u2 : Int} {a b : Int} (ha0 : 0 ≤ a) (ha1 : a ≤ 13) (hb0 : 0 ≤ b) (hb1 : b ≤ 13) (k : ∀ r : Int, (r = 0 ∨ r = 1) → (r = 1 ↔ xm_inw M a b) → post (some (0, 0, 0, 1, r)) M) : xa_C xm_I A h0 (d + 3) 268 [(2, 60, 0, 0, 0), (0, 0, l1, u1, a), (0, 0, l2, u2, b)] M post := by
  refine xa_C_arg [(2, 60, 0, 0, 0), (0, 0, 0, 13, a), (0, 0, 0, 13, b)] (xa_svR (xa_svI (fun _ _ _ _ => by omega) (xa_svI (fun _ _ _ _ => by omega) xa_sv0))) (xa_C_wk ?_)
  refine xa_meth (Q0 := (3, 2, false, 0, 0, 12)) (by decide +kernel) ⟨rfl, rfl⟩ (full := s_c_268) rfl rfl ?_
  intro hM hv Q hgo
  refine hgo.1 40 [] 0 _ _ _ ?_
  refine And.intro ?_ ?_
  · intro (c1 : (M 64 a) = (M 64 b))
    show xa_wk post (some (0, 0, 1, 1, 1)) M
    exact xa_wkI 1 rfl (fun _ _ => by omega) (k 1 (by omega) ⟨fun _ => Or.inl c1, fun _ => rfl⟩)
  · intro (c1 : ¬ (M 64 a) = (M 64 b))
    show xa_C xm_I A h0 _ 264 [(2, 60, 0, 0, 0), (0, 0, 0, 13, a), (0, 0, 0, 13, b)] M _
    refine ct_areNearF ha0 ha1 hb0 hb1 (fun r2 br2 hr2 => ?_)
    refine And.intro ?_ ?_
    · intro (c3 : r2 = 0)
      show xa_wk post (some (0, 0, 0, 0, 0)) M
      refine xa_wkI 0 rfl (fun _ _ => by omega) (k 0 (by omega) ⟨fun e => by omega, fun e => ?_⟩)
      rcases e with e | e
      · exact absurd e c1
      · have := hr2.2 e.1
        omega
    · intro (c3 : ¬ r2 = 0)
      show xa_C xm_I A h0 _ 221 [(2, 60, 0, 0, 0), (0, 0, 0, 13, a), (0, 0, 0, 13, b)] M _
      refine ct_areMeshed (fun r4 br4 hr4 => ?_)
      refine And.intro ?_ ?_
      · intro (c5 : ¬ r4 = 0)
        show xa_wk post (some (0, 0, 0, 0, 0)) M
        refine xa_wkI 0 rfl (fun _ _ => by omega) (k 0 (by omega) ⟨fun e => by omega, fun e => ?_⟩)
        rcases e with e | e
        · exact absurd e c1
        · exact absurd (hr4.1 (by omega)) e.2
      · intro (c5 : r4 = 0)
        show xa_wk post (some (0, 0, 1, 1, 1)) M
        refine xa_wkI 1 rfl (fun _ _ => by omega) (k 1 (by omega) ⟨fun _ => Or.inr ⟨hr2.1 (by omega), fun e => ?_⟩, fun _ => rfl⟩)
        have := hr4.2 e
        omega
/-- who leads: at most as great, and led by none but itself -/
def xm_ff (M : xa_M) : Prop := ∀ w, 0 ≤ w → w < M 60 0 → 0 ≤ M 93 w ∧ M 93 w ≤ w ∧ M 93 (M 93 w) = M 93 w
/-- none of one lot stands in another's way -/
def xm_fw (M : xa_M) : Prop := ∀ v u, 0 ≤ v → v < u → u < M 60 0 → M 93 v = M 93 u → ¬ xm_inw M v u
/-- only what is put from w on differs -/
def xm_94 (w : Int) (M M1 : xa_M) : Prop := ∀ q j, ¬ (q = 94 ∧ w ≤ j) → M1 q j = M q j
theorem xm_94_r {w : Int} {M : xa_M} : xm_94 w M M := fun _ _ _ => rfl
theorem xm_94_t {w w2 : Int} {M M1 M2 : xa_M} (hw : w ≤ w2) (h : xm_94 w M M1) (h2 : xm_94 w2 M1 M2) : xm_94 w M M2 := fun q j hn => (h2 q j (fun e => hn ⟨e.1, by omega⟩)).trans (h q j hn)
theorem xm_94_u {w : Int} {M M1 : xa_M} {i v : Int} (hi : w ≤ i) (h : xm_94 w M M1) : xm_94 w M (xa_up M1 94 i v) := by
  intro q j hn
  rw [xa_up_ne (fun e => hn ⟨e.1, by omega⟩)]
  exact h q j hn
theorem xm_94_c {w : Int} {M M1 : xa_M} (h : xm_94 w M M1) : xm_cor M M1 := fun q j hn => h q j (fun e => hn (by obtain ⟨e, -⟩ := e; subst e; exact Or.inl (by decide)))
theorem xm_94_ff {w : Int} {M M1 : xa_M} (h : xm_94 w M M1) (hf : xm_ff M) : xm_ff M1 := by
  intro v v0 v1
  rw [h 60 0 (by omega)] at v1
  rw [h 93 v (by omega), h 93 (M 93 v) (by omega)]
  exact hf v v0 v1
theorem xm_94_fw {w : Int} {M M1 : xa_M} (h : xm_94 w M M1) (hf : xm_fw M) : xm_fw M1 := by
  intro v u v0 vu u1 e
  rw [h 60 0 (by omega)] at u1
  rw [h 93 v (by omega), h 93 u (by omega)] at e
  rw [xm_inw_c (xm_94_c h)]
  exact hf v u v0 vu u1 e
end
section
-- the lots of wheels led together: enough rounds
section XK
variable {n mm c : Int} {a b : Int → Int} {f f1 g : Int → Int}
/-- how many of the first k are at most c -/
def xk_n (f : Int → Int) (c : Int) : Nat → Int
  | 0 => 0
  | k + 1 => xk_n f c k + (if f (k : Int) ≤ c then 1 else 0)
theorem xk_b : ∀ k : Nat, 0 ≤ xk_n f c k ∧ xk_n f c k ≤ (k : Int)
  | 0 => ⟨Int.le_refl _, Int.le_refl _⟩
  | k + 1 => by
    have := xk_b k
    show 0 ≤ xk_n f c k + (if f (k : Int) ≤ c then 1 else 0) ∧ xk_n f c k + (if f (k : Int) ≤ c then 1 else 0) ≤ _
    split <;> omega
theorem xk_mn : ∀ k : Nat, (∀ w, 0 ≤ w → w < (k : Int) → f w ≤ c → g w ≤ c) → xk_n f c k ≤ xk_n g c k
  | 0, _ => Int.le_refl _
  | k + 1, h => by
    have h1 := xk_mn k (fun w w0 w1 => h w w0 (by omega))
    have h2 := h (k : Int) (by omega) (by omega)
    show xk_n f c k + (if f (k : Int) ≤ c then 1 else 0) ≤ xk_n g c k + (if g (k : Int) ≤ c then 1 else 0)
    split
    · rename_i e
      rw [if_pos (h2 e)]
      omega
    · split <;> omega
theorem xk_lt : ∀ (k : Nat) (v : Int), (∀ w, 0 ≤ w → w < (k : Int) → f w ≤ c → g w ≤ c) → 0 ≤ v → v < (k : Int) → g v ≤ c → ¬ f v ≤ c → xk_n f c k + 1 ≤ xk_n g c k
  | 0, v, _, v0, v1, _, _ => by omega
  | k + 1, v, h, v0, v1, hg, hf => by
    have h2 := h (k : Int) (by omega) (by omega)
    show xk_n f c k + (if f (k : Int) ≤ c then 1 else 0) + 1 ≤ xk_n g c k + (if g (k : Int) ≤ c then 1 else 0)
    by_cases e : v = (k : Int)
    · subst e
      have h1 := xk_mn (f := f) (g := g) k (fun w w0 w1 => h w w0 (by omega))
      rw [if_pos hg, if_neg hf]
      omega
    · have h1 := xk_lt k v (fun w w0 w1 => h w w0 (by omega)) v0 (by omega) hg hf
      split
      · rename_i e2
        rw [if_pos (h2 e2)]
        omega
      · split <;> omega
/-- closed under meshes -/
def xk_cl (mm : Int) (a b f : Int → Int) (c : Int) : Prop := ∀ m, 0 ≤ m → m < mm → (f (a m) ≤ c ↔ f (b m) ≤ c)
def xk_R (n mm : Int) (a b f : Int → Int) (r : Int) : Prop := ∀ c, 0 ≤ c → xk_cl mm a b f c ∨ r + 1 ≤ xk_n f c n.toNat
def xk_J (n mm : Int) (a b g f : Int → Int) (m : Int) : Prop := (∀ w, 0 ≤ w → w < n → f w ≤ g w) ∧ (∀ c, xk_cl mm a b g c → ∀ w, 0 ≤ w → w < n → f w ≤ c → g w ≤ c) ∧ (∀ c, (∀ w, 0 ≤ w → w < n → f w ≤ c → g w ≤ c) → ∀ i, 0 ≤ i → i < m → (f (a i) ≤ c ↔ f (b i) ≤ c))
def xk_K (n mm : Int) (a b f : Int → Int) : Prop := (∀ R : Int → Prop, (∀ m, 0 ≤ m → m < mm → (R (a m) ↔ R (b m))) → ∀ w, 0 ≤ w → w < n → (R w ↔ R (f w))) ∧ ∀ w, 0 ≤ w → w < n → 0 ≤ f w ∧ f w ≤ w
def xk_ab (n mm : Int) (a b : Int → Int) : Prop := ∀ i, 0 ≤ i → i < mm → (0 ≤ a i ∧ a i < n) ∧ (0 ≤ b i ∧ b i < n)
theorem xk_J0 : xk_J n mm a b g g 0 := ⟨fun _ _ _ => Int.le_refl _, fun _ _ _ _ _ h => h, fun _ _ i i0 i1 => by omega⟩
theorem xk_Js {m v : Int} (hab : xk_ab n mm a b) (hJ : xk_J n mm a b g f m) (m0 : 0 ≤ m) (m1 : m < mm) (v1 : v ≤ f (a m)) (v2 : v ≤ f (b m)) (v3 : v = f (a m) ∨ v = f (b m)) (e : ∀ w, f1 w = if w = b m then v else if w = a m then v else f w) : xk_J n mm a b g f1 (m + 1) := by
  obtain ⟨j1, j2, j3⟩ := hJ
  obtain ⟨ha, hb⟩ := hab m m0 m1
  have ea : f1 (a m) = v := by
    rw [e]
    split
    · rfl
    · rw [if_pos rfl]
  have eb : f1 (b m) = v := by rw [e, if_pos rfl]
  have le1 : ∀ w, f1 w ≤ f w := fun w => by
    rw [e]
    split
    · rename_i h
      rw [h]
      exact v2
    · split
      · rename_i h
        rw [h]
        exact v1
      · exact Int.le_refl _
  refine ⟨fun w w0 w1 => Int.le_trans (le1 w) (j1 w w0 w1), fun c hc w w0 w1 h => ?_, fun c H i i0 i1 => ?_⟩
  · have hv : v ≤ c → g (a m) ≤ c ∧ g (b m) ≤ c := fun hv => by
      rcases v3 with e3 | e3
      · have := j2 c hc (a m) ha.1 ha.2 (by omega)
        exact ⟨this, (hc m m0 m1).1 this⟩
      · have := j2 c hc (b m) hb.1 hb.2 (by omega)
        exact ⟨(hc m m0 m1).2 this, this⟩
    rw [e] at h
    split at h
    · rename_i h2
      rw [h2]
      exact (hv h).2
    · split at h
      · rename_i h2
        rw [h2]
        exact (hv h).1
      · exact j2 c hc w w0 w1 h
  · rcases Int.lt_or_eq_of_le (show i ≤ m by omega) with hi | hi
    · obtain ⟨hai, hbi⟩ := hab i i0 (by omega)
      have q : ∀ w, 0 ≤ w → w < n → (f1 w ≤ c ↔ f w ≤ c) := fun w w0 w1 => ⟨fun h => Int.le_trans (j1 w w0 w1) (H w w0 w1 h), fun h => Int.le_trans (le1 w) h⟩
      rw [q _ hai.1 hai.2, q _ hbi.1 hbi.2]
      exact j3 c (fun w w0 w1 h => H w w0 w1 (Int.le_trans (le1 w) h)) i i0 hi
    · rw [hi, ea, eb]
theorem xk_e {r : Int} (hJ : xk_J n mm a b g f mm) (hR : xk_R n mm a b g r) : xk_R n mm a b f (r + 1) := by
  obtain ⟨j1, j2, j3⟩ := hJ
  intro c c0
  by_cases H : ∀ w, 0 ≤ w → w < n → f w ≤ c → g w ≤ c
  · exact Or.inl (fun i i0 i1 => j3 c H i i0 i1)
  · rcases hR c c0 with h | h
    · exact absurd (j2 c h) H
    · refine Or.inr ?_
      have : ∃ w, 0 ≤ w ∧ w < n ∧ f w ≤ c ∧ ¬ g w ≤ c := by
        apply Classical.byContradiction
        intro hn
        exact H (fun w w0 w1 h1 => Classical.byContradiction (fun h2 => hn ⟨w, w0, w1, h1, h2⟩))
      obtain ⟨w, w0, w1, h1, h2⟩ := this
      have := xk_lt (f := g) (g := f) n.toNat w (fun w w0 w1 h => Int.le_trans (j1 w w0 (by omega)) h) w0 (by omega) h1 h2
      omega
theorem xk_R0 (hab : xk_ab n mm a b) (e : ∀ w, 0 ≤ w → w < n → f w = w) : xk_R n mm a b f 0 := by
  intro c c0
  by_cases h : 1 ≤ n
  · refine Or.inr ?_
    have := xk_lt (f := fun _ => c + 1) (g := f) (c := c) n.toNat 0 (fun w w0 w1 h => absurd h (by omega)) (by omega) (by omega) (by rw [e 0 (by omega) (by omega)]; exact c0) (by omega)
    have := (xk_b (f := fun _ => c + 1) (c := c) n.toNat).1
    omega
  · refine Or.inl (fun i i0 i1 => ?_)
    have := hab i i0 i1
    omega
theorem xk_K0 (e : ∀ w, 0 ≤ w → w < n → f w = w) : xk_K n mm a b f := ⟨fun R _ w w0 w1 => by rw [e w w0 w1], fun w w0 w1 => by rw [e w w0 w1]; omega⟩
theorem xk_Ks {m v : Int} (hab : xk_ab n mm a b) (hK : xk_K n mm a b f) (m0 : 0 ≤ m) (m1 : m < mm) (v1 : v ≤ f (a m)) (v2 : v ≤ f (b m)) (v3 : v = f (a m) ∨ v = f (b m)) (e : ∀ w, f1 w = if w = b m then v else if w = a m then v else f w) : xk_K n mm a b f1 := by
  obtain ⟨k1, k2⟩ := hK
  obtain ⟨ha, hb⟩ := hab m m0 m1
  have ka := k2 (a m) ha.1 ha.2
  have kb := k2 (b m) hb.1 hb.2
  refine ⟨fun R hR w w0 w1 => ?_, fun w w0 w1 => ?_⟩
  · have r1 := k1 R hR (a m) ha.1 ha.2
    have r2 := k1 R hR (b m) hb.1 hb.2
    have r3 := hR m m0 m1
    have rv : R (a m) ↔ R v := by
      rcases v3 with e3 | e3
      · rw [e3]
        exact r1
      · rw [e3]
        exact r3.trans r2
    rw [e]
    split
    · rename_i h
      rw [h]
      exact r3.symm.trans rv
    · split
      · rename_i h
        rw [h]
        exact rv
      · exact k1 R hR w w0 w1
  · rw [e]
    split
    · rename_i h
      subst h
      omega
    · split
      · rename_i h
        subst h
        omega
      · exact k2 w w0 w1
theorem xk_fin (hn : 0 ≤ n) (hab : xk_ab n mm a b) (hK : xk_K n mm a b f) (hR : xk_R n mm a b f n) (w : Int) (w0 : 0 ≤ w) (w1 : w < n) : f (f w) = f w := by
  have hcl : ∀ c, 0 ≤ c → xk_cl mm a b f c := fun c c0 => by
    rcases hR c c0 with h | h
    · exact h
    · have := (xk_b (f := f) (c := c) n.toNat).2
      omega
  have heq : ∀ i, 0 ≤ i → i < mm → f (a i) = f (b i) := fun i i0 i1 => by
    obtain ⟨ha, hb⟩ := hab i i0 i1
    have h1 := (hcl _ (hK.2 _ ha.1 ha.2).1 i i0 i1).1 (Int.le_refl _)
    have h2 := (hcl _ (hK.2 _ hb.1 hb.2).1 i i0 i1).2 (Int.le_refl _)
    omega
  exact (hK.1 (fun x => f x = f w) (fun i i0 i1 => by rw [heq i i0 i1]) w w0 w1).1 rfl
end XK
end
section
-- depths of the model is safe
set_option maxRecDepth 20000
theorem xm_93_2 (M : xa_M) (i j v w : Int) : xa_up (xa_up M 93 i v) 93 j v 93 w = if w = j then v else if w = i then v else M 93 w := by
  simp only [xa_up, true_and]
end
section
-- sign, end, axle, uneven, names, dial, seen, games, wrong, year, left, count of the model (made by wip/p24/xa/xm31.py)
set_option maxRecDepth 20000
/-- the cells of which the invariant speaks -/
def xm_icB (q : Nat) (j : Int) : Bool := (Nat.beq q 61 || (Nat.beq q 62 || (Nat.beq q 63 || (Nat.beq q 66 || (Nat.beq q 67 || (Nat.beq q 70 || (Nat.beq q 71 || (Nat.beq q 104 || Nat.beq q 105)))))))) || (Nat.beq q 60 && (decide (j = 0) || (decide (j = 6) || (decide (j = 11) || (decide (j = 15) || decide (j = 16))))))
def xm_is (M M1 : xa_M) : Prop := ∀ q j, xm_icB q j = true → M1 q j = M q j
theorem xm_is_r {M : xa_M} : xm_is M M := fun _ _ _ => rfl
theorem xm_is_u {M M1 : xa_M} {q : Nat} {j v : Int} (hq : xm_icB q j = false) (h : xm_is M M1) : xm_is M (xa_up M1 q j v) := by
  intro q2 j2 h2
  rw [xa_up_ne (fun e => by rw [e.1, e.2, hq] at h2; cases h2)]
  exact h q2 j2 h2
theorem xm_Inv_is {M M1 : xa_M} (h : xm_is M M1) (hI : xm_Inv M) : xm_Inv M1 := by
  have e0 : M1 60 0 = M 60 0 := h 60 0 rfl
  have e6 : M1 60 6 = M 60 6 := h 60 6 rfl
  have e11 : M1 60 11 = M 60 11 := h 60 11 rfl
  have e15 : M1 60 15 = M 60 15 := h 60 15 rfl
  have e16 : M1 60 16 = M 60 16 := h 60 16 rfl
  have a61 : ∀ j, M1 61 j = M 61 j := fun j => h 61 j rfl
  have a62 : ∀ j, M1 62 j = M 62 j := fun j => h 62 j rfl
  have a63 : ∀ j, M1 63 j = M 63 j := fun j => h 63 j rfl
  have a66 : ∀ j, M1 66 j = M 66 j := fun j => h 66 j rfl
  have a67 : ∀ j, M1 67 j = M 67 j := fun j => h 67 j rfl
  have a70 : ∀ j, M1 70 j = M 70 j := fun j => h 70 j rfl
  have a71 : ∀ j, M1 71 j = M 71 j := fun j => h 71 j rfl
  have a104 : ∀ j, M1 104 j = M 104 j := fun j => h 104 j rfl
  have a105 : ∀ j, M1 105 j = M 105 j := fun j => h 105 j rfl
  obtain ⟨h1, h2, h3, h4, h5⟩ := hI
  refine ⟨fun w w0 w1 => ?_, fun m m0 m1 => ?_, fun p p0 p1 => ?_, ?_, fun i i0 i1 i2 => ?_⟩
  · rw [a61, a62, a63]
    exact h1 w w0 (by omega)
  · rw [a66, a67, e0]
    exact h2 m m0 (by omega)
  · rw [a70, a71]
    exact h3 p p0 (by omega)
  · omega
  · rw [a105] at i2
    have := h5 i i0 i1 i2
    unfold xm_bld at this ⊢
    simp only [a104]
    exact this
-- NF
end
section
-- the skeleton's names for the law's end
def R_law : String := "GreenGearsLaw"
def lw_P (b : Addr) (xs : List Int32) (args : Array Value) (s : State) : Prop := args = #[.ref b] ∧ s.IntsAt b xs ∧ xs.length ≤ 2560 ∧ (Jvm.Cond.and given_1 narrow_1).before args s = true
/-- what a walk over the start with the record d0 says of its end, said of the start itself -/
theorem lw_closed {s t : State} {o : Outcome} {d0 : Drawn} {L : List Loc} {k n : Nat} (hd0 : s.drawn.sameBut d0 lw_cs) (hv : ∃ v, o = .returned v) (hW : (s.setDrawn d0).WarmedH t.vm) (hs : (s.setDrawn d0).sameButNew ({ t with vm := s.vm } : State) L k n) : State.butDraws s t lw_cs (fun t1 => Framed s o t1 L k n) := by
  have h2 : t.drawn = d0 := congrArg State.drawn hs.1
  refine ⟨⟨hv, hW, State.sameButNew.setDrawn hs s.drawn⟩, ?_, by decide⟩
  rw [h2]
  exact hd0
def lw_Q (_ : Array Value) (s : State) (o : Outcome) (t : State) : Prop := o = .returned (some (.int 1)) ∧ State.butDraws s t lw_cs (fun t1 => Framed s o t1 [] 1105985 5778149)
def lw_Z (below : List Frame) (a : Array Value) (s : State) : State → Prop := fun t => ∃ o, t.status = .running ∧ Ended t below o ∧ lw_Q a s o t
/-- the law's own end, with 1 on the stack, nothing written that was there before, its room as the claim has it; d0: the record of draws at this point (at the entry s.drawn: begin with 'refine W.base ?_' and 'have hd0 := Drawn.sameBut.refl s.drawn lw_cs') -/
theorem lw_ret {p : Program} {l : Launch} {e : Env} {s : State} {m : MethodId} {below : List Frame} {meth : Method} {c : Code} {b : Nat} {d0 : Drawn} (hd0 : s.drawn.sameBut d0 lw_cs) (hx : p.tables.exec = Jvm.exec) (hb : c.code = code) (hr : meth.sig.returnType = ret) (hlocks : meth.locks = false) {pc : Nat} {H : Heap} {ls : Array Slot} (hdg : decode code pc = .ok (.ireturn, 1)) : W p l e room_1 (s.setDrawn d0) m #[Value.ref b] below meth c H [] 1105985 5778149 (lw_Z below #[Value.ref b] s) (F0 m pc ls [.int 1]) := by
  intro T hT X
  obtain ⟨fs, hret, hrun, hended, hW, hframe⟩ := X.leave (v := some (.int 1)) (hlocks := hlocks) (fun h => by rw [hr] at h; cases h)
  have hmeth' : T.vm.method? m = some meth := X.method'
  refine ⟨T.setFrames fs, ?_, .returned (some (.int 1)), hrun, hended, rfl, lw_closed hd0 ⟨_, rfl⟩ hW hframe⟩
  jvm_step X.here [X.here.top, hx, hb, hdg, hmeth', hr, ret, narrow_b1]
  (try refine ⟨rfl, ?_⟩); (try refine ⟨rfl, ?_⟩)
  first | (intro acts; rw [hret _ acts rfl rfl rfl]) | rw [hret _ _ rfl rfl rfl]
  exact Steps.refl _
/-- what holds at the law's entry: the machine, the code, the tables' words (any of lw_tbl by 'hts w (by decide +kernel)'), the script of L ints xs at the cell b, what the Statement gives of the start (any of its parts by flat_of_before) -/
def lw_At (p : Program) (s : State) (m : MethodId) (meth : Method) (c : Code) (b L : Nat) (xs : Nat → Int32) : Prop :=
  p.tables.exec = Jvm.exec ∧ c.code = code ∧ meth.sig.returnType = ret ∧ c.maxLocals = 8 ∧ s.vm.findClass R_law = some m.cls ∧ (∀ w ∈ lw_tbl, w.before #[Value.ref b] s = true) ∧ va_X b L xs s s.heap ∧ b < s.heap.size ∧ meth.locks = false ∧ (Jvm.Cond.and given_1 narrow_1).before #[Value.ref b] s = true
end
section
-- the world at the law's start; the law's own steps, and its loads of the script
set_option maxRecDepth 100000 in
theorem lw_cn : g_cn 13 = R_law := by decide +kernel
section L29
variable {p : Program} {l : Launch} {e : Env} {s : State} {m : MethodId} {below : List Frame} {meth : Method} {c : Code} {b L : Nat} {xs : Nat → Int32} {D : va_G} {dA : Nat → ClassId}
theorem lw_world (C0 : lw_At p s m meth c b L xs) : ∃ (D : va_G) (dA : Nat → ClassId), g_K4 D dA s := by
  obtain ⟨hx, hb, hr, hml, hown, hts, hX, hbl, hlocks, hgv⟩ := C0
  have hw : ∀ w ∈ g_wsl, w.before #[Value.ref b] s = true := fun w h => hts w (g_wsl_in w h)
  have hkn : ∀ r ∈ g_cl, ∃ (cC : ClassId) (iS : Nat → Nat), u_Kn s r.1 r.2.1 r.2.2 cC iS := fun r h => u_known hw (g_cl_in r h) (hts _ (of_decide_eq_true (List.all_eq_true.mp g_ins_ok r h)))
  have h : ∀ k : Nat, ∃ z : ClassId × (Nat → Nat), ∀ q : vw_C, g_cl[k]? = some q → u_Kn s q.1 q.2.1 q.2.2 z.1 z.2 := by
    intro k
    cases hc : g_cl[k]? with
    | none => exact ⟨(m.cls, fun _ => 0), fun q h => by cases h⟩
    | some r =>
      obtain ⟨cC, iS, h⟩ := hkn r (List.mem_of_getElem? hc)
      exact ⟨(cC, iS), fun q h' => by cases h'; exact h⟩
  have hA : ∀ t : FieldType, (t = .int ∨ t = .long ∨ t = .boolean ∨ t = .byte) → ∃ cA, ArrOfT s cA t ∧ va_RA s cA t := by
    intro t ht
    obtain ⟨cA, kA, comp, h1, h2, h3⟩ := Cond.arrayClass_spec (hw _ (g_arr_in ht))
    refine ⟨cA, fun n z => ⟨fun k h => (by cases h), kA, h2, comp, h3⟩, ?_⟩
    rcases ht with rfl | rfl | rfl | rfl <;> exact h1
  obtain ⟨a0, q0⟩ := hA .int (Or.inl rfl)
  obtain ⟨a1, q1⟩ := hA .long (Or.inr (Or.inl rfl))
  obtain ⟨a2, q2⟩ := hA .boolean (Or.inr (Or.inr (Or.inl rfl)))
  obtain ⟨a3, q3⟩ := hA .byte (Or.inr (Or.inr (Or.inr rfl)))
  obtain ⟨comp, a4, k4, e1, e2, e3, e4, e5⟩ := Cond.arrayOver_spec (hts _ g_bu_ok)
  refine ⟨(fun c => (Classical.choose (h c)).1, fun c => (Classical.choose (h c)).2), fun k => match k with | 0 => a0 | 1 => a1 | 2 => a2 | 3 => a3 | _ => a4, ⟨fun c q hc => Classical.choose_spec (h c) q hc, ?_⟩, va_AO.of (hts _ g_bu_ok), fun w hw' => va_Nw.of (g_nst (List.mem_filter.mp hw').2) (hts w (List.mem_filter.mp hw').1)⟩
  intro k q hk
  rcases k with _ | _ | _ | _ | _ | k
  · cases hk; exact q0
  · cases hk; exact q1
  · cases hk; exact q2
  · cases hk; exact q3
  · cases hk
    exact ⟨fun n z => ⟨fun k h => (by cases h), k4, e3, comp, e4⟩, k4, comp, e3, e4, e1, e5⟩
  · cases hk
/-- the law's own closure -/
def lw_PP (p : Program) (l : Launch) (e : Env) (s : State) (m : MethodId) (below : List Frame) (meth : Method) (c : Code) (b : Nat) (D : va_G) (dA : Nat → ClassId) : g_S → Prop :=
  g_G p l e room_1 s m #[Value.ref b] below meth c 8 D dA (fun q => s.heap.size ≤ q) s.heap (lw_Z below #[Value.ref b] s)
theorem lw_cl (C0 : lw_At p s m meth c b L xs) (hK : g_K4 D dA s) (S : g_S) (h : g_pre (g_run 60) 13 8 false 1105985 5778149 code (lw_PP p l e s m below meth c b D dA) S) : lw_PP p l e s m below meth c b D dA S := by
  obtain ⟨hx, hb, hr, hml, hown, hts, hX, hbl, hlocks, hgv⟩ := C0
  have hw : ∀ w ∈ g_wsl, w.before #[Value.ref b] s = true := fun w h => hts w (g_wsl_in w h)
  have C : g_Cx p s m #[Value.ref b] meth c code 13 8 false D dA := ⟨hx, hb, hml, by rw [lw_cn]; exact hown, hw, hK, fun h => by cases h⟩
  exact g_sP C (fun q hq => hq) (by decide) (by decide) (by decide) (by decide) (g_sound l 60) S h
theorem lw_len (C0 : lw_At p s m meth c b L xs) {pc : Nat} {L' : g_L} {rest : List Value} {w : g_W} (hdg : decode code pc = .ok (.arraylength, 1)) (k : lw_PP p l e s m below meth c b D dA (pc + 1, L', .int (Int32.ofNat L) :: rest, w)) : lw_PP p l e s m below meth c b D dA (pc, L', .ref b :: rest, w) := by
  obtain ⟨hx, hb, hr, hml, hown, hts, hX, hbl, hlocks, hgv⟩ := C0
  have hbA : ¬ s.heap.size ≤ b := Nat.not_le.mpr hbl
  intro ls H locs hl hP hD hS
  refine va_slen hx hb hX hbl hbA hS hdg ?_
  exact k ls H locs hl hP hD hS
theorem lw_ld (C0 : lw_At p s m meth c b L xs) {pc : Nat} {L' : g_L} {rest : List Value} {w : g_W} {j : Int32} {k : Nat} (hdg : decode code pc = .ok (.iaload, 1)) (hk : k < L) (hj : j.toInt = (k : Int)) (kk : lw_PP p l e s m below meth c b D dA (pc + 1, L', .int (xs k) :: rest, w)) : lw_PP p l e s m below meth c b D dA (pc, L', .int j :: .ref b :: rest, w) := by
  obtain ⟨hx, hb, hr, hml, hown, hts, hX, hbl, hlocks, hgv⟩ := C0
  have hbA : ¬ s.heap.size ≤ b := Nat.not_le.mpr hbl
  intro ls H locs hl hP hD hS
  have e1 : j.toNatClampNeg = k := by rw [← Int32.toNat_toInt, hj]; rfl
  have hin : vp_in j L := by
    intro h
    rcases h with h | h
    · have := Int32.lt_iff_toInt_lt.mp h
      rw [hj] at this
      have h0 : (0 : Int32).toInt = 0 := rfl
      omega
    · omega
  refine va_sld hx hb hX hbl hbA hS hin hdg ?_
  rw [e1]
  exact kk ls H locs hl hP hD hS
/-- the law's end with true -/
theorem lw_good (C0 : lw_At p s m meth c b L xs) {pc : Nat} {L' : g_L} {cn sn : Nat} {h : g_H} (hdg : decode code pc = .ok (.ireturn, 1)) (h1 : cn ≤ 1105985) (h2 : sn ≤ 5778149) : lw_PP p l e s m below meth c b D dA (pc, L', [.int 1], cn, sn, h) := by
  obtain ⟨hx, hb, hr, hml, hown, hts, hX, hbl, hlocks, hgv⟩ := C0
  intro ls H locs hl hP hD hS
  refine va_forget hS.2.2 ?_
  refine W.widen h1 h2 ?_
  refine W.base ?_
  have hd0 := Drawn.sameBut.refl s.drawn lw_cs
  exact lw_ret hd0 hx hb hr hlocks hdg
theorem lw_first (hS : lw_PP p l e s m below meth c b D dA (0, [(0, .ref b)], [], 0, 0, [])) : W p l e room_1 s m #[Value.ref b] below meth c s.heap [] 0 0 (lw_Z below #[Value.ref b] s) (entryFrame m ([Value.ref b] : List Value).toArray 8) := by
  rw [lg_entry_eq]
  have hl := lv_entry [Value.ref b] (n := 8) (show (1 : Nat) ≤ 8 by decide)
  exact hS _ s.heap [] hl (fun k q h => by cases h) ⟨fun i j p q h => (by cases h), fun k q h => by cases h⟩ va_S.rf
end L29
end
section
-- the law's start, run by the kernel up to its loop's head
set_option maxRecDepth 20000
def s_litH : List s_C := [
  (false, 11, 12, (0, 0), [(0, (5, 1)), (1, (5, 11)), (2, (5, 12)), (3, (5, 15)), (4, (5, 30)), (5, (5, 32)), (6, (5, 34)), (7, (5, 38)), (8, (5, 43)), (9, (5, 48)), (10, (5, 50)), (11, (5, 55))]),
  (false, 1, 11, (0, 0), [(0, (5, 2)), (1, (5, 3)), (2, (5, 4)), (3, (5, 5)), (4, (5, 6)), (5, (5, 7)), (6, (5, 8)), (7, (5, 9)), (8, (5, 10)), (9, (0, 0)), (10, (0, 0))]),
  (true, 0, 14, (0, 0), []),
  (true, 0, 14, (0, 0), []),
  (true, 0, 14, (0, 0), []),
  (true, 0, 14, (0, 0), []),
  (true, 0, 14, (0, 0), []),
  (true, 0, 16, (0, 0), []),
  (true, 0, 16, (0, 0), []),
  (true, 0, 10, (0, 0), []),
  (true, 0, 10, (0, 0), []),
  (true, 4, 4, (4, 0), []),
  (false, 9, 3, (0, 0), [(0, (5, 13)), (1, (5, 14)), (2, (0, 0))]),
  (true, 1, 10, (1, 0), []),
  (true, 1, 10, (1, 0), []),
  (false, 3, 14, (0, 0), [(0, (5, 16)), (1, (5, 21)), (2, (5, 22)), (3, (5, 23)), (4, (5, 24)), (5, (5, 25)), (6, (5, 26)), (7, (5, 27)), (8, (5, 28)), (9, (5, 29)), (10, (0, 0)), (11, (1, 0)), (12, (1, 0)), (13, (0, 0))]),
  (false, 10, 5, (0, 0), [(0, (5, 17)), (1, (5, 18)), (2, (5, 19)), (3, (5, 20)), (4, (0, 0))]),
  (true, 0, 10, (0, 0), []),
  (true, 0, 10, (0, 0), []),
  (true, 0, 10, (0, 0), []),
  (true, 0, 10, (0, 0), []),
  (true, 0, 14, (0, 0), []),
  (true, 0, 14, (0, 0), []),
  (true, 0, 14, (0, 0), []),
  (true, 0, 14, (0, 0), []),
  (true, 0, 14, (0, 0), []),
  (true, 1, 14, (1, 0), []),
  (true, 1, 14, (1, 0), []),
  (true, 0, 800, (0, 0), []),
  (true, 0, 14, (0, 0), []),
  (false, 8, 2, (0, 0), [(0, (5, 31)), (1, (0, 0))]),
  (true, 0, 80, (0, 0), []),
  (false, 7, 3, (0, 0), [(0, (0, 15)), (1, (0, 120)), (2, (5, 33))]),
  (true, 0, 61, (0, 0), []),
  (false, 4, 4, (0, 0), [(0, (5, 35)), (1, (5, 36)), (2, (5, 37)), (3, (0, 0))]),
  (true, 0, 14, (0, 0), []),
  (true, 0, 14, (0, 0), []),
  (true, 0, 14, (0, 0), []),
  (false, 2, 7, (0, 0), [(0, (5, 39)), (1, (5, 40)), (2, (5, 41)), (3, (5, 42)), (4, (0, 0)), (5, (0, 0)), (6, (0, 0))]),
  (true, 2, 223, (0, 0), []),
  (true, 0, 20, (0, 0), []),
  (true, 2, 20, (0, 0), []),
  (true, 0, 8, (0, 0), []),
  (false, 5, 5, (0, 0), [(0, (5, 44)), (1, (5, 45)), (2, (5, 46)), (3, (5, 47)), (4, (0, 0))]),
  (true, 0, 12, (0, 0), []),
  (true, 0, 12, (0, 0), []),
  (true, 0, 12, (0, 0), []),
  (true, 0, 12, (0, 0), []),
  (false, 6, 2, (0, 0), [(0, (5, 49)), (1, (0, 0))]),
  (true, 1, 16, (1, 0), []),
  (false, 0, 8, (0, 0), [(0, (5, 51)), (1, (5, 52)), (2, (5, 53)), (3, (5, 54)), (4, (0, 0)), (5, (0, 0)), (6, (0, 0)), (7, (0, 0))]),
  (true, 0, 8, (0, 0), []),
  (true, 0, 8, (0, 0), []),
  (true, 0, 8, (0, 0), []),
  (true, 0, 256, (0, 0), []),
  (false, 0, 8, (0, 0), [(0, (5, 56)), (1, (5, 57)), (2, (5, 58)), (3, (5, 59)), (4, (0, 0)), (5, (0, 0)), (6, (0, 0)), (7, (0, 0))]),
  (true, 0, 8, (0, 0), []),
  (true, 0, 8, (0, 0), []),
  (true, 0, 8, (0, 0), []),
  (true, 0, 256, (0, 0), []),
  (false, 12, 69, (0, 0), [(0, (0, 0)), (1, (5, 61)), (2, (5, 62)), (3, (5, 63)), (4, (5, 64)), (5, (5, 65)), (6, (0, 0)), (7, (5, 66)), (8, (5, 67)), (9, (5, 68)), (10, (5, 69)), (11, (0, 0)), (12, (5, 70)), (13, (5, 71)), (14, (5, 72)), (15, (0, 15)), (16, (0, 120)), (17, (5, 73)), (18, (0, 0)), (19, (5, 74)), (20, (0, 0)), (21, (0, 0)), (22, (5, 75)), (23, (5, 76)), (24, (5, 77)), (25, (1, 0)), (26, (1, 0)), (27, (5, 78)), (28, (5, 79)), (29, (0, 0)), (30, (5, 80)), (31, (5, 81)), (32, (0, 0)), (33, (5, 82)), (34, (5, 83)), (35, (5, 84)), (36, (5, 85)), (37, (5, 86)), (38, (5, 87)), (39, (0, 0)), (40, (0, 0)), (41, (0, 0)), (42, (0, 0)), (43, (5, 88)), (44, (5, 89)), (45, (5, 90)), (46, (5, 91)), (47, (5, 92)), (48, (5, 93)), (49, (5, 94)), (50, (1, 0)), (51, (1, 0)), (52, (5, 95)), (53, (0, 0)), (54, (5, 96)), (55, (0, 0)), (56, (0, 0)), (57, (5, 97)), (58, (5, 98)), (59, (0, 0)), (60, (5, 99)), (61, (0, 0)), (62, (5, 100)), (63, (5, 101)), (64, (5, 102)), (65, (5, 103)), (66, (5, 104)), (67, (5, 105)), (68, (0, 0))]),
  (true, 0, 14, (0, 0), []),
  (true, 0, 14, (0, 0), []),
  (true, 0, 14, (0, 0), []),
  (true, 0, 14, (0, 0), []),
  (true, 0, 14, (0, 0), []),
  (true, 0, 16, (0, 0), []),
  (true, 0, 16, (0, 0), []),
  (true, 0, 10, (0, 0), []),
  (true, 0, 10, (0, 0), []),
  (true, 0, 8, (0, 0), []),
  (true, 0, 8, (0, 0), []),
  (true, 0, 8, (0, 0), []),
  (true, 3, 80, (0, 0), []),
  (true, 1, 32, (1, 0), []),
  (true, 1, 10, (1, 0), []),
  (true, 1, 10, (1, 0), []),
  (true, 2, 10, (0, 0), []),
  (true, 0, 10, (0, 0), []),
  (true, 0, 10, (0, 0), []),
  (true, 0, 14, (0, 0), []),
  (true, 0, 14, (0, 0), []),
  (true, 0, 14, (0, 0), []),
  (true, 2, 14, (0, 0), []),
  (true, 0, 14, (0, 0), []),
  (true, 1, 15, (1, 0), []),
  (true, 1, 15, (1, 0), []),
  (true, 0, 5614, (0, 0), []),
  (true, 0, 8, (0, 0), []),
  (true, 0, 8, (0, 0), []),
  (true, 0, 8, (0, 0), []),
  (true, 0, 4, (0, 0), []),
  (true, 0, 401, (0, 0), []),
  (true, 0, 14, (0, 0), []),
  (true, 0, 14, (0, 0), []),
  (true, 0, 8, (0, 0), []),
  (true, 2, 223, (0, 0), []),
  (true, 0, 20, (0, 0), []),
  (true, 2, 20, (0, 0), []),
  (true, 0, 8, (0, 0), []),
  (true, 0, 12, (0, 0), []),
  (true, 0, 12, (0, 0), []),
  (true, 0, 12, (0, 0), []),
  (true, 0, 12, (0, 0), []),
  (true, 0, 496, (0, 0), []),
  (true, 2, 4, (0, 0), []),
  (true, 1, 1, (1, 0), [])]
def s_E0 : s_E := [(-2147483648, 2147483647), (-2147483648, 2147483647), (-2147483648, 2147483647), (-2147483648, 2147483647), (-2147483648, 2147483647)]
def s_eqC (c e : s_C) : Bool := match c, e with
  | (x, y, n, d, f), (x', y', n', d', f') => decide (x = x') && (Nat.beq y y' && (Nat.beq n n' && (decide (d = d') && decide (f = f'))))
def s_eqH : List s_C → List s_C → Bool
  | [], [] => true
  | c :: t, e :: u => s_eqC c e && s_eqH t u
  | _, _ => false
theorem s_eqH_eq : ∀ {l m : List s_C}, s_eqH l m = true → l = m
  | [], [], _ => rfl
  | c :: t, e :: u, h => by
    simp only [s_eqH, Bool.and_eq_true] at h
    obtain ⟨h1, h2⟩ := h
    obtain ⟨x, y, n, d, f⟩ := c
    obtain ⟨x', y', n', d', f'⟩ := e
    simp only [s_eqC, Bool.and_eq_true, decide_eq_true_eq, Nat.beq_eq] at h1
    obtain ⟨rfl, rfl, rfl, rfl, rfl⟩ := h1
    rw [s_eqH_eq h2]
  | [], _ :: _, h => by cases h
  | _ :: _, [], h => by cases h
def st_ov : Nat → List s_V → Option s_V := fun _ _ => none
def st_K : s_Call := s_run s_codes s_ft s_mi 1000000 st_ov 60
def st_cl : List s_I := t_stop [23] s_cl
def st_X0 : s_X := (st_cl, [(0, (7, 0))], [], 0, 0, (s_E0, [], [], []))
def st_L : s_L := [(4, (0, 0)), (3, (5, 106)), (2, (5, 60)), (1, (5, 0)), (0, (7, 0))]
/-- the run from the start comes to the loop's head with the state that is written out -/
def st_isl (r : Option (List s_X)) : Bool := match r with
  | some [(code, L, st, cn, sn, (_, _, _, H))] => Nat.beq (s_pc code) 23 && (decide (L = st_L) && (st.isEmpty && (Nat.beq cn 107 && (Nat.beq sn 9636 && s_eqH H s_litH))))
  | _ => false
set_option maxRecDepth 100000 in
theorem st_run : st_isl (s_loop st_K st_cl s_ft s_mi 0 13 8 false 1105985 5778149 1000000 st_X0) = true := by decide +kernel
end
section
-- what holds between the law's calls: the class's cells keep their roles, the model's their invariant
set_option maxRecDepth 20000
/-- the roles of the first cells -/
def iv_rl : List Nat := [0, 1, 14, 15, 16, 17, 18, 19, 20, 21, 22, 13, 2, 23, 24, 3, 4, 34, 35, 36, 37, 25, 26, 27, 28, 29, 30, 31, 32, 33, 5, 38, 6, 39, 7, 40, 41, 42, 8, 43, 44, 45, 46, 9, 47, 48, 49, 50, 10, 51, 11, 52, 53, 54, 55, 11, 52, 53, 54, 55, 12, 56, 57, 58, 59, 60, 61, 62, 63, 64, 65, 66, 67, 68, 69, 70, 71, 72, 73, 74, 75, 76, 77, 78, 79, 80, 81, 82, 83, 84, 85, 86, 87, 88, 89, 90, 91, 92, 93, 94, 95, 96, 97, 98, 99, 100, 101]
/-- what stands in the cells -/
def iv_ct (h : g_H) (q j : Nat) : Value := match h[q]? with
  | some (_, _, _, _, f) => f j
  | none => .null
def iv_W (A : Nat → Nat) (W : y_W) : Prop := ∀ q r, iv_rl[q]? = some r → W[q]? = some (A q, r)
def iv_cls (A : Nat → Nat) (h : g_H) : Prop := ∃ (W : y_W) (β : Nat → Int), y_H (iv_ct h) y_Rc W β h ∧ iv_W A W
def iv_mod (A : Nat → Nat) (h : g_H) : Prop := ∃ M : xa_M, xa_H xm_I A M h h ∧ xm_Inv M
def iv_inv (A : Nat → Nat) (h : g_H) : Prop := iv_cls A h ∧ iv_mod A h
theorem y_H_ct {φ : Nat → Nat → Value} {R : y_R} {W : y_W} {β : Nat → Int} {h : g_H} (H : y_H φ R W β h) : y_H (iv_ct h) R W β h := by
  refine ⟨H.1, fun q a r hq => ?_, H.2.2⟩
  obtain ⟨ro, f, h1, h2, h3⟩ := H.2.1 q a r hq
  refine ⟨ro, f, h1, h2, fun j hj => ?_⟩
  rcases h3 j hj with h | h
  · exact Or.inl ⟨h.1, by unfold iv_ct; rw [h2]⟩
  · exact Or.inr ⟨h.1, fun _ => by unfold iv_ct; rw [h2]⟩
-- what a method's answer is like
def iv_rt (rt : Option FieldType) (r : Option Value) : Prop := match rt with
  | none => r = none
  | some .int => ∃ v, r = some (.int v)
  | some .boolean => ∃ v, r = some (.int v) ∧ (v = 0 ∨ v = 1)
  | _ => True
theorem iv_nar {v : Int32} (h : narrow .boolean (.int v) = .int v) : v = 0 ∨ v = 1 := by
  simp only [narrow, Value.int.injEq] at h
  have h2 : (v.toBitVec &&& 1#32).toNat = v.toBitVec.toNat := congrArg (fun x : Int32 => x.toBitVec.toNat) h
  rw [BitVec.toNat_and, show (1#32).toNat = 1 from rfl, Nat.and_one_is_mod] at h2
  rcases (show v.toBitVec.toNat = 0 ∨ v.toBitVec.toNat = 1 by omega) with h3 | h3
  · exact Or.inl (Int32.toBitVec_inj.mp (BitVec.eq_of_toNat_eq h3))
  · exact Or.inr (Int32.toBitVec_inj.mp (BitVec.eq_of_toNat_eq h3))
theorem g_end_rt {cc : ByteArray} {rt : Option FieldType} {bc bs : Nat} {post post2 : Option Value → g_H → Prop} (hp : ∀ r h, post r h → iv_rt rt r → post2 r h) (S : g_S) (h : g_end cc rt bc bs post S) : g_end cc rt bc bs post2 S := by
  obtain ⟨h1, h2, h3⟩ := h
  refine ⟨h1, h2, ?_⟩
  rcases h3 with ⟨v, ty, a1, a2, a3, a4, a5⟩ | ⟨v, a1, a2, a3, a4⟩ | ⟨v, n, a1, a2, a3, a4, a5⟩ | ⟨a1, a2, a3, a4⟩
  · refine Or.inl ⟨v, ty, a1, a2, a3, a4, hp _ _ a5 ?_⟩
    subst a2
    cases ty <;> first | exact ⟨v, rfl⟩ | exact ⟨v, rfl, iv_nar a3⟩ | trivial
  · refine Or.inr (Or.inl ⟨v, a1, a2, a3, hp _ _ a4 ?_⟩)
    subst a2
    trivial
  · refine Or.inr (Or.inr (Or.inl ⟨v, n, a1, a2, a3, a4, hp _ _ a5 ?_⟩))
    subst a2
    trivial
  · refine Or.inr (Or.inr (Or.inr ⟨a1, a2, a3, hp _ _ a4 ?_⟩))
    rw [a2]
    rfl
theorem g_run_rt {d j : Nat} {as : List Value} {h : g_H} {mc ms : Nat} {post post2 : Option Value → g_H → Prop} (hr : g_run d j as h mc ms post) (hp : ∀ r h, post r h → iv_rt (g_rt j) r → post2 r h) : g_run d j as h mc ms post2 := by
  cases d with
  | zero => exact hr.elim
  | succ d =>
    obtain ⟨h1, h2, h3⟩ := hr
    exact ⟨h1, h2, fun P hP hcl => h3 P (fun S hS => hP S (g_end_rt hp S hS)) hcl⟩
theorem g_run_mono {d j : Nat} {as : List Value} {h : g_H} {mc ms : Nat} {post post2 : Option Value → g_H → Prop} (hr : g_run d j as h mc ms post) (hp : ∀ r h, post r h → post2 r h) : g_run d j as h mc ms post2 := g_run_rt hr (fun r h h1 _ => hp r h h1)
-- a call of the class leaves the model as it is
def iv_fzB (q : Nat) : Bool := match xm_I q with
  | some (ro, _) => (match iv_rl[q]? with
    | some r => (match y_Rc.1[r]? with
      | some ro' => decide (ro'.1 = ro.1) && (Nat.beq ro'.2.1 ro.2.1 && (Nat.beq ro'.2.2.1 ro.2.2.1 && ro'.2.2.2.2.isEmpty))
      | none => false)
    | none => false)
  | none => true
theorem iv_fz_all : (List.range 106).all iv_fzB = true := by decide +kernel
theorem xm_I_lt {q : Nat} {ro : y_R1} {S : Nat → Nat} (h : xm_I q = some (ro, S)) : 60 ≤ q ∧ q ≤ 105 := by
  unfold xm_I at h
  obtain ⟨h1, -⟩ := s_bif h
  rw [Bool.and_eq_true, Nat.ble_eq, Nat.ble_eq] at h1
  exact h1
theorem iv_fz {q : Nat} {ro : y_R1} {S : Nat → Nat} (h : xm_I q = some (ro, S)) : ∃ r ro', iv_rl[q]? = some r ∧ y_Rc.1[r]? = some ro' ∧ ro'.1 = ro.1 ∧ ro'.2.1 = ro.2.1 ∧ ro'.2.2.1 = ro.2.2.1 ∧ ro'.2.2.2.2 = [] := by
  have hq := xm_I_lt h
  have h1 := List.all_eq_true.mp iv_fz_all q (List.mem_range.mpr (by omega))
  unfold iv_fzB at h1
  rw [h] at h1
  simp only at h1
  split at h1
  next r e1 =>
    split at h1
    next ro' e2 =>
      simp only [Bool.and_eq_true, decide_eq_true_eq, Nat.beq_eq, List.isEmpty_iff] at h1
      exact ⟨r, ro', e1, e2, h1.1, h1.2.1, h1.2.2.1, h1.2.2.2⟩
    next => cases h1
  next => cases h1
theorem y_g_no {W : y_W} {β : Nat → Int} {ro : y_R1} {j : Nat} {x : Value} (h0 : ro.2.2.2.2 = []) (h : y_g W β (y_spj β ro j) x) : False := by
  have e : y_spj β ro j = y_no := by
    unfold y_spj y_sp
    rw [h0]
    split
    · split <;> rfl
    · rfl
  rw [e] at h
  exact h
theorem iv_mod_k {A : Nat → Nat} {W W' : y_W} {β β' : Nat → Int} {h h' : g_H} {M : xa_M} (hM : xa_H xm_I A M h h) (hW' : iv_W A W') (hH' : y_H (iv_ct h) y_Rc W' β' h') : xa_H xm_I A M h' h' := by
  refine ⟨rfl, fun q ro S hq => ?_, fun _ _ => rfl⟩
  obtain ⟨r, ro', e1, e2, e3, e4, e5, e6⟩ := iv_fz hq
  obtain ⟨ro2, f', g1, g2, g3⟩ := hH'.2.1 q (A q) r (hW' q r e1)
  rw [e2] at g1
  cases g1
  obtain ⟨f, k1, k2⟩ := hM.2.1 q ro S hq
  rw [e3, e4, e5] at g2
  refine ⟨f', g2, fun j hj => ?_⟩
  have hj' : j < ro'.2.2.1 := by
    rw [e5]
    exact hj
  rcases g3 j hj' with g | g
  · have hc : iv_ct h q j = f j := by
      unfold iv_ct
      rw [k1]
    rw [g.2, hc]
    exact k2 j hj
  · exact (y_g_no e6 g.1).elim
-- a call of the model leaves the class as it is
theorem xm_I_none {q : Nat} (h : ¬ (60 ≤ q ∧ q ≤ 105)) : xm_I q = none := by
  cases e : xm_I q with
  | none => rfl
  | some p => exact absurd (xm_I_lt (ro := p.1) (S := p.2) e) h
end
section
-- the law's own code between its calls
/-- kinds: 0 any int, 1 the place and a number, 2 the length and a number, 3 a number, 4 the script, 5 a cell, 6 any long, 8 what the script has at the place and a number, 9 an answer -/
abbrev z_V : Type := Nat × Int
abbrev z_L : Type := List (Nat × z_V)
abbrev z_F : Type := List (Int × Bool)
abbrev z_X : Type := List s_I × z_L × List z_V × z_F
abbrev z_E : Type := Int × Int × Nat × (Nat → Nat) × (Nat → Int32) × (Nat → Int32)
def z_g (E : z_E) (v : z_V) (x : Value) : Prop := match v with
  | (0, _) => ∃ m : Int32, x = .int m
  | (1, c) => ∃ m : Int32, x = .int m ∧ m.toInt = E.1 + c
  | (2, c) => ∃ m : Int32, x = .int m ∧ m.toInt = E.2.1 + c
  | (3, c) => ∃ m : Int32, x = .int m ∧ m.toInt = c
  | (4, _) => x = .ref E.2.2.1
  | (5, k) => x = .ref (E.2.2.2.1 k.toNat)
  | (6, _) => ∃ m : Int64, x = .long m
  | (8, c) => x = .int (E.2.2.2.2.1 (E.1 + c).toNat)
  | (9, k) => x = .int (E.2.2.2.2.2 k.toNat)
  | _ => False
def z_gL (E : z_E) (L : z_L) (Ls : g_L) : Prop := ∀ p ∈ L, ∃ x, (p.1, x) ∈ Ls ∧ z_g E p.2 x
def z_gS (E : z_E) : List z_V → List Value → Prop
  | [], [] => True
  | v :: vs, x :: xs => z_g E v x ∧ z_gS E vs xs
  | _, _ => False
def z_gF (E : z_E) (F : z_F) : Prop := ∀ p ∈ F, (p.2 = true ↔ ¬ E.2.2.2.2.1 (E.1 + p.1).toNat = 0)
/-- an int; a cell -/
def z_isI (v : z_V) : Bool := Nat.ble v.1 3 || (Nat.beq v.1 8 || Nat.beq v.1 9)
def z_isR (v : z_V) : Bool := Nat.beq v.1 4 || Nat.beq v.1 5
def z_c1 (v : z_V) : Bool := !Nat.beq v.1 6
def z_find : z_L → Nat → Option z_V
  | [], _ => none
  | (j, v) :: t, i => bif Nat.beq j i then some v else z_find t i
def z_fil1 (i : Nat) : z_L → z_L
  | [] => []
  | (j, u) :: t => bif (Nat.beq j i || (Nat.beq (j + 1) i && Nat.beq u.1 6)) then z_fil1 i t else (j, u) :: z_fil1 i t
def z_fil2 (i : Nat) : z_L → z_L
  | [] => []
  | (j, u) :: t => bif (Nat.beq j i || (Nat.beq j (i + 1) || (Nat.beq (j + 1) i && Nat.beq u.1 6))) then z_fil2 i t else (j, u) :: z_fil2 i t
def z_sm (c : Int) : Bool := decide (-10000 ≤ c) && decide (c ≤ 10000)
def z_q1 (t : List s_I) (L : z_L) (st : List z_V) (F : z_F) (a b : Nat) : Option (List z_X) := match z_find L a with
  | some v => bif (Nat.beq b 0 && z_isI v) || (Nat.beq b 2 && z_isR v) then some [(t, L, v :: st, F)] else none
  | none => none
def z_q2 (t : List s_I) (L : z_L) (st : List z_V) (F : z_F) (a b : Nat) : Option (List z_X) := match st with
  | v :: rest => bif Nat.beq b 0 && (z_isI v && Nat.blt a 8) then some [(t, (a, v) :: z_fil1 a L, rest, F)] else none
  | [] => none
def z_q3 (t : List s_I) (L : z_L) (st : List z_V) (F : z_F) (a b : Nat) : Option (List z_X) := match st with
  | v :: rest => bif Nat.beq b 1 && (Nat.beq v.1 6 && Nat.blt (a + 1) 8) then some [(t, (a, v) :: z_fil2 a L, rest, F)] else none
  | [] => none
def z_q4 (t : List s_I) (L : z_L) (st : List z_V) (F : z_F) (a : Nat) (n : Int) : Option (List z_X) := match z_find L a with
  | some (1, c) => bif Nat.blt a 8 && (z_sm c && z_sm n) then some [(t, (a, (1, c + n)) :: z_fil1 a L, st, F)] else none
  | _ => none
def z_q6 (t : List s_I) (L : z_L) (st : List z_V) (F : z_F) : Option (List z_X) := match st with
  | v :: rest => bif z_c1 v then some [(t, L, rest, F)] else none
  | [] => none
def z_q11 (t : List s_I) (L : z_L) (st : List z_V) (F : z_F) (a : Nat) : Option (List z_X) := match st with
  | y :: x :: rest => bif Nat.beq a 0 && (Nat.beq x.1 1 && (Nat.beq y.1 3 && (z_sm x.2 && z_sm y.2))) then some [(t, L, (1, x.2 + y.2) :: rest, F)]
    else bif Nat.beq a 1 && (Nat.beq x.1 2 && (Nat.beq y.1 3 && (z_sm x.2 && z_sm y.2))) then some [(t, L, (2, x.2 - y.2) :: rest, F)]
    else bif z_isI x && z_isI y then some [(t, L, (0, 0) :: rest, F)] else none
  | _ => none
def z_q28 (t : List s_I) (L : z_L) (st : List z_V) (F : z_F) : Option (List z_X) := match st with
  | x :: rest => bif Nat.beq x.1 4 then some [(t, L, (2, 0) :: rest, F)] else none
  | [] => none
def z_q32 (t : List s_I) (L : z_L) (st : List z_V) (F : z_F) (a : Nat) : Option (List z_X) := match st with
  | j :: x :: rest => bif Nat.beq a 0 && (Nat.beq j.1 1 && (Nat.beq x.1 4 && (decide (0 ≤ j.2) && decide (j.2 ≤ 4)))) then some [(t, L, (8, j.2) :: rest, F)] else none
  | _ => none
def z_ff : z_F → Int → Option Bool
  | [], _ => none
  | (c, u) :: t, d => bif decide (c = d) then some u else z_ff t d
/-- is it 0: eq (0), ne (1) -/
def z_q21 (full : List s_I) (t : List s_I) (L : z_L) (st : List z_V) (F : z_F) (a b : Nat) : Option (List z_X) := match st with
  | x :: rest => bif Nat.beq x.1 8 && Nat.ble b 1 then match s_jump full a with
      | some c => (match z_ff F x.2 with
        | some u => bif u then (bif Nat.beq b 0 then some [(t, L, rest, F)] else some [(c, L, rest, F)]) else (bif Nat.beq b 0 then some [(c, L, rest, F)] else some [(t, L, rest, F)])
        | none => bif Nat.beq b 0 then some [(c, L, rest, (x.2, false) :: F), (t, L, rest, (x.2, true) :: F)] else some [(c, L, rest, (x.2, true) :: F), (t, L, rest, (x.2, false) :: F)])
      | none => none
    else none
  | [] => none
def z_do (full : List s_I) (r : s_I) (t : List s_I) (L : z_L) (st : List z_V) (F : z_F) : Option (List z_X) := match r with
  | (_, _, q, _, a, b, v, _) => match q with
    | 0 => bif s_go r t && (Nat.beq a 0 && z_sm v) then some [(t, L, (3, v) :: st, F)] else none
    | 1 => bif s_go r t then z_q1 t L st F a b else none
    | 2 => bif s_go r t then z_q2 t L st F a b else none
    | 3 => bif s_go r t then z_q3 t L st F a b else none
    | 4 => bif s_go r t then z_q4 t L st F a v else none
    | 6 => bif s_go r t then z_q6 t L st F else none
    | 11 => bif s_go r t then z_q11 t L st F a else none
    | 20 => (match s_jump full a with
      | some c => some [(c, L, st, F)]
      | none => none)
    | 21 => bif s_go r t then z_q21 full t L st F a b else none
    | 28 => bif s_go r t then z_q28 t L st F else none
    | 32 => bif s_go r t then z_q32 t L st F a else none
    | _ => none
def z_all (f : z_X → Option (List z_X)) : List z_X → Option (List z_X)
  | [] => some []
  | X :: Xs => match f X with
    | some a => match z_all f Xs with
      | some b => some (a ++ b)
      | none => none
    | none => none
def z_run (full : List s_I) (stops : List Nat) : Nat → z_X → Option (List z_X)
  | 0, _ => none
  | n + 1, (code, L, st, F) => match code with
    | [] => none
    | r :: t => bif y_isn r.1 stops then some [(r :: t, L, st, F)] else match z_do full r t L st F with
      | none => some [(r :: t, L, st, F)]
      | some Xs => z_all (z_run full stops n) Xs
section Z1
variable {p : Program} {l : Launch} {e : Env} {s : State} {m : MethodId} {below : List Frame} {meth : Method} {c : Code} {b N : Nat} {xs : Nat → Int32} {D : va_G} {dA : Nat → ClassId}
variable {E : z_E} {L : z_L} {Ls : g_L} {st : List z_V} {sts : List Value} {F : z_F} {v u : z_V} {x : Value} {w : g_W}
theorem z_find_in {i : Nat} : ∀ {L : z_L}, z_find L i = some v → (i, v) ∈ L
  | [], h => by cases h
  | (j, w) :: t, h => by
    rw [z_find] at h
    cases e : Nat.beq j i
    · rw [e, cond_false] at h
      exact List.mem_cons_of_mem _ (z_find_in h)
    · rw [e, cond_true] at h
      cases h
      rw [Nat.beq_eq] at e
      subst e
      exact List.mem_cons_self
theorem z_gS_c {vs : List z_V} {ys : List Value} (h : z_gS E (v :: vs) ys) : ∃ x xs, ys = x :: xs ∧ z_g E v x ∧ z_gS E vs xs := by
  cases ys with
  | nil => exact h.elim
  | cons x xs => exact ⟨x, xs, rfl, h.1, h.2⟩
theorem z_isI_g (h : z_isI v = true) (hg : z_g E v x) : ∃ m : Int32, x = .int m := by
  obtain ⟨k, z⟩ := v
  unfold z_isI at h
  simp only [Bool.or_eq_true, Nat.ble_eq, Nat.beq_eq] at h
  rcases h with h | h | h
  · rcases k with _ | _ | _ | _ | k
    · exact hg
    · obtain ⟨m, e, -⟩ := hg; exact ⟨m, e⟩
    · obtain ⟨m, e, -⟩ := hg; exact ⟨m, e⟩
    · obtain ⟨m, e, -⟩ := hg; exact ⟨m, e⟩
    · omega
  · subst h; exact ⟨_, hg⟩
  · subst h; exact ⟨_, hg⟩
theorem z_isR_g (h : z_isR v = true) (hg : z_g E v x) : ∃ a, x = .ref a := by
  obtain ⟨k, z⟩ := v
  unfold z_isR at h
  simp only [Bool.or_eq_true, Nat.beq_eq] at h
  rcases h with h | h <;> subst h <;> exact ⟨_, hg⟩
theorem z_cat (hg : z_g E v x) : x.category = bif Nat.beq v.1 6 then 2 else 1 := by
  obtain ⟨k, z⟩ := v
  match k, hg with
  | 0, ⟨m, e⟩ => rw [e]; rfl
  | 1, ⟨m, e, _⟩ => rw [e]; rfl
  | 2, ⟨m, e, _⟩ => rw [e]; rfl
  | 3, ⟨m, e, _⟩ => rw [e]; rfl
  | 4, e => rw [show x = .ref _ from e]; rfl
  | 5, e => rw [show x = .ref _ from e]; rfl
  | 6, ⟨m, e⟩ => rw [e]; rfl
  | 8, e => rw [show x = .int _ from e]; rfl
  | 9, e => rw [show x = .int _ from e]; rfl
theorem z_fil1_in {i : Nat} {q : Nat × z_V} : ∀ {L : z_L}, q ∈ z_fil1 i L → q ∈ L ∧ ¬ q.1 = i ∧ ¬ (q.1 + 1 = i ∧ Nat.beq q.2.1 6 = true)
  | [], h => by cases h
  | (j, u) :: t, h => by
    rw [z_fil1] at h
    cases e : (Nat.beq j i || (Nat.beq (j + 1) i && Nat.beq u.1 6))
    · rw [e, cond_false] at h
      rcases List.mem_cons.mp h with rfl | h
      · refine ⟨List.mem_cons_self, fun h1 => ?_, fun h1 => ?_⟩
        · have h1' : j = i := h1
          rw [h1', Nat.beq_eq.mpr rfl] at e
          cases e
        · have h1' : j + 1 = i := h1.1
          have h2' : Nat.beq u.1 6 = true := h1.2
          rw [h1', Nat.beq_eq.mpr rfl, h2', Bool.and_true, Bool.or_true] at e
          cases e
      · have := z_fil1_in h
        exact ⟨List.mem_cons_of_mem _ this.1, this.2⟩
    · rw [e, cond_true] at h
      have := z_fil1_in h
      exact ⟨List.mem_cons_of_mem _ this.1, this.2⟩
theorem z_fil2_in {i : Nat} {q : Nat × z_V} : ∀ {L : z_L}, q ∈ z_fil2 i L → q ∈ L ∧ ¬ q.1 = i ∧ ¬ q.1 = i + 1 ∧ ¬ (q.1 + 1 = i ∧ Nat.beq q.2.1 6 = true)
  | [], h => by cases h
  | (j, u) :: t, h => by
    rw [z_fil2] at h
    cases e : (Nat.beq j i || (Nat.beq j (i + 1) || (Nat.beq (j + 1) i && Nat.beq u.1 6)))
    · rw [e, cond_false] at h
      rcases List.mem_cons.mp h with rfl | h
      · refine ⟨List.mem_cons_self, fun h1 => ?_, fun h1 => ?_, fun h1 => ?_⟩
        · have h1' : j = i := h1
          rw [h1', Nat.beq_eq.mpr rfl] at e
          cases e
        · have h1' : j = i + 1 := h1
          rw [h1', Nat.beq_eq.mpr rfl, Bool.true_or, Bool.or_true] at e
          cases e
        · have h1' : j + 1 = i := h1.1
          have h2' : Nat.beq u.1 6 = true := h1.2
          rw [h1', Nat.beq_eq.mpr rfl, h2', Bool.and_true, Bool.or_true, Bool.or_true] at e
          cases e
      · have := z_fil2_in h
        exact ⟨List.mem_cons_of_mem _ this.1, this.2⟩
    · rw [e, cond_true] at h
      have := z_fil2_in h
      exact ⟨List.mem_cons_of_mem _ this.1, this.2⟩
theorem z_gL_1 {i : Nat} (hL : z_gL E L Ls) (hv : z_g E v x) : z_gL E ((i, v) :: z_fil1 i L) (g_st1 i x Ls) := by
  intro q hq
  rcases List.mem_cons.mp hq with rfl | hq
  · exact ⟨x, List.mem_cons_self, hv⟩
  · obtain ⟨hm, n1, n2⟩ := z_fil1_in hq
    obtain ⟨y, hy, hg⟩ := hL q hm
    refine ⟨y, List.mem_cons_of_mem _ (List.mem_filter.mpr ⟨hy, ?_⟩), hg⟩
    have hc := z_cat hg
    simp only [Bool.and_eq_true, Bool.not_eq_true', beq_eq_false_iff_ne]
    refine ⟨n1, ?_⟩
    cases e1 : (q.1 + 1 == i)
    · rfl
    · rw [beq_iff_eq] at e1
      cases e2 : Nat.beq q.2.1 6
      · rw [e2] at hc
        rw [hc]
        rfl
      · exact absurd ⟨e1, e2⟩ n2
theorem z_gL_2 {i : Nat} (hL : z_gL E L Ls) (hv : z_g E v x) : z_gL E ((i, v) :: z_fil2 i L) (g_st2 i x Ls) := by
  intro q hq
  rcases List.mem_cons.mp hq with rfl | hq
  · exact ⟨x, List.mem_cons_self, hv⟩
  · obtain ⟨hm, n1, n3, n2⟩ := z_fil2_in hq
    obtain ⟨y, hy, hg⟩ := hL q hm
    refine ⟨y, List.mem_cons_of_mem _ (List.mem_filter.mpr ⟨hy, ?_⟩), hg⟩
    have hc := z_cat hg
    simp only [Bool.and_eq_true, Bool.not_eq_true', beq_eq_false_iff_ne]
    refine ⟨n1, n3, ?_⟩
    cases e1 : (q.1 + 1 == i)
    · rfl
    · rw [beq_iff_eq] at e1
      cases e2 : Nat.beq q.2.1 6
      · rw [e2] at hc
        rw [hc]
        rfl
      · exact absurd ⟨e1, e2⟩ n2
theorem z_sm_ok {c : Int} (h : z_sm c = true) : -10000 ≤ c ∧ c ≤ 10000 := by
  unfold z_sm at h
  rw [Bool.and_eq_true, decide_eq_true_eq, decide_eq_true_eq] at h
  exact h
theorem z_ff_in {d : Int} {u : Bool} : ∀ {F : z_F}, z_ff F d = some u → (d, u) ∈ F
  | [], h => by cases h
  | (c, w) :: t, h => by
    rw [z_ff] at h
    cases e : decide (c = d)
    · rw [e, cond_false] at h
      exact List.mem_cons_of_mem _ (z_ff_in h)
    · rw [e, cond_true] at h
      cases h
      rw [decide_eq_true_eq] at e
      subst e
      exact List.mem_cons_self
/-- the law's closure, as far as it is wanted here -/
def z_cl (N b : Nat) (xs : Nat → Int32) (P : g_S → Prop) : Prop := (∀ S, g_pre (g_run 60) 13 8 false 1105985 5778149 code P S → P S) ∧
  (∀ (pc : Nat) (L : g_L) (rest : List Value) (w : g_W), decode code pc = .ok (.arraylength, 1) → P (pc + 1, L, .int (Int32.ofNat N) :: rest, w) → P (pc, L, .ref b :: rest, w)) ∧
  (∀ (pc : Nat) (L : g_L) (rest : List Value) (w : g_W) (j : Int32) (k : Nat), decode code pc = .ok (.iaload, 1) → k < N → j.toInt = (k : Int) → P (pc + 1, L, .int (xs k) :: rest, w) → P (pc, L, .int j :: .ref b :: rest, w))
theorem z_cl_ok (C0 : lw_At p s m meth c b N xs) (hK : g_K4 D dA s) : z_cl N b xs (lw_PP p l e s m below meth c b D dA) :=
  ⟨lw_cl C0 hK, fun _ _ _ _ hd k => lw_len C0 hd k, fun _ _ _ _ _ _ hd h1 h2 k => lw_ld C0 hd h1 h2 k⟩
/-- what is known of the place -/
def z_ok (N b : Nat) (xs : Nat → Int32) (E : z_E) : Prop := 0 ≤ E.1 ∧ E.1 + 5 ≤ E.2.1 ∧ E.2.1 ≤ 2560 ∧ E.2.1 = (N : Int) ∧ E.2.2.1 = b ∧ E.2.2.2.2.1 = xs
/-- a state holds where the machine's does -/
def z_P (E : z_E) (P : g_S → Prop) (w : g_W) (pc : Nat) (L : z_L) (st : List z_V) (F : z_F) : Prop := ∀ (Ls : g_L) (sts : List Value), z_gL E L Ls → z_gS E st sts → z_gF E F → P (pc, Ls, sts, w)
end Z1
end
