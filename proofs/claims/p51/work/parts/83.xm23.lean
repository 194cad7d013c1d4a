-- isFitting of the model behind its doubles (made by wip/p24/xa/xm21.py)
set_option maxRecDepth 20000
/-- the numbers of an array ahead of n are at least 1 -/
def xm_ge (M : xa_M) (q : Nat) (n : Int) : Prop := ∀ i, 0 ≤ i → i < n → 1 ≤ M q i
theorem xm_ge_z {M : xa_M} {q : Nat} : xm_ge M q 0 := fun i i0 i1 => by omega
theorem xm_ge_s {M : xa_M} {q : Nat} {n v : Int} (h : xm_ge M q n) (hv : 1 ≤ v) : xm_ge (xa_up M q n v) q (n + 1) := by
  intro i i0 i1
  rw [xw_up]
  by_cases e : i = n
  · rw [if_pos e]
    exact hv
  · rw [if_neg e]
    exact h i i0 (by omega)
theorem xm_ge_i {M : xa_M} {q : Nat} {n j v : Int} (h : xm_ge M q n) (hv : 1 ≤ v) : xm_ge (xa_up M q j v) q n := by
  intro i i0 i1
  rw [xw_up]
  split
  · exact hv
  · exact h i i0 i1
theorem xm_ge_o {M : xa_M} {q q2 : Nat} {n j v : Int} (hq : q ≠ q2) (h : xm_ge M q n) : xm_ge (xa_up M q2 j v) q n := by
  intro i i0 i1
  have := h i i0 i1
  simpa [xa_up, hq] using this
def xm_fr (M M1 : xa_M) : Prop := ∀ q j, q ≠ 85 → q ≠ 86 → M1 q j = M q j
theorem xm_fr_u {M M1 : xa_M} {q : Nat} {i v : Int} (hq : q = 85 ∨ q = 86) (h : xm_fr M M1) : xm_fr M (xa_up M1 q i v) := by
  intro q2 j h5 h6
  have := h q2 j h5 h6
  have e : ¬ q2 = q := by omega
  simpa [xa_up, e] using this
theorem xm_td {x g : Int} (h1 : 1 ≤ g) (h2 : g ≤ x) : 1 ≤ x.tdiv g := by
  rw [Int.tdiv_eq_ediv_of_nonneg (by omega)]
  exact (Int.le_ediv_iff_mul_le (by omega)).2 (by omega)
theorem xm_if97 {A : Nat → Nat} {h0 : g_H} {d : Nat} {M : xa_M} {post : Option xa_V → xa_M → Prop} {p : Int} (hM : xa_Mok xm_I M) (hI : xm_Inv M) (ht : ∀ i, 0 ≤ i → i < M 60 32 → 10 ≤ M 84 i) (p0 : 0 ≤ p) (p1 : p < M 60 11) (k : ∀ (r : Int) (M1 : xa_M), (r = 0 ∨ r = 1) → (∀ q j, q ≠ 85 → q ≠ 86 → M1 q j = M q j) → post (some (0, 0, 0, 1, r)) M1) {Q : xa_Q} (hgo : xa_go xm_I (xa_C xm_I A h0 (d + 2)) (xa_wk post) s_c_242 10 2 Q) : Q 97 [(1, (0, 0, 0, 7, p)), (0, (2, 60, 0, 0, 0))] [] M := by
  have b11 := xm_f11 hM
  have hpp := hI.2.2.1 p p0 p1
  have loop4 : ∀ (n : Nat) (x6 x5 : Int) (M1 : xa_M), 0 ≤ x6 ∧ x6 ≤ 15 → 0 ≤ x5 ∧ x5 ≤ 15 → xm_cor M M1 → xm_fr M M1 → 15 - x6 < (n : Int) → Q 322 [(6, (0, 0, 0, 15, x6)), (5, (0, 0, 0, 15, x5)), (0, (2, 60, 0, 0, 0))] [] M1 := by
    intro n
    induction n with
    | zero => intro x6 x5 M1 b6 b5 hc hfr hms; omega
    | succ n ih4 =>
      intro x6 x5 M1 b6 b5 hc hfr hms4
      refine hgo.1 16 [140, 217, 227, 292, 322] 322 _ _ _ ?_
      refine And.intro ?_ ?_
      · intro (c1 : x5 ≤ x6)
        show xa_wk post (some (0, 0, 1, 1, 1)) M1
        exact xa_wkI 1 rfl (fun _ _ => by omega) (k 1 _ (by omega) hfr)
      · intro (c1 : x6 < x5)
        refine And.intro (show 0 ≤ x6 ∧ x6 < 15 by omega) ?_
        refine And.intro ?_ ?_
        · intro (c2 : (M1 86 x6) = 1)
          show Q 322 [(6, (0, 0, 1, 16, x6 + 1)), (5, (0, 0, 0, 15, x5)), (0, (2, 60, 0, 0, 0))] [] M1
          refine hgo.2.1 322 _ [(6, (0, 0, 0, 15, x6 + 1)), (5, (0, 0, 0, 15, x5)), (0, (2, 60, 0, 0, 0))] _ _ (xa_subI rfl rfl (fun _ _ _ _ => by omega) (xa_subI rfl rfl (fun _ _ _ _ => by omega) (xa_subR rfl xa_sub0))) ?_
          exact ih4 (x6 + 1) x5 M1 (by omega) (by omega) hc hfr (by omega)
        · intro (c2 : ¬ (M1 86 x6) = 1)
          show xa_wk post (some (0, 0, 0, 0, 0)) M1
          exact xa_wkI 0 rfl (fun _ _ => by omega) (k 0 _ (by omega) hfr)
  have loop3 : ∀ (n : Nat) (x6 x5 x4 : Int) (M1 : xa_M), 0 ≤ x6 ∧ x6 ≤ 15 → 0 ≤ x5 ∧ x5 ≤ 15 → 0 ≤ x4 ∧ x4 ≤ 15 → xm_cor M M1 → xm_fr M M1 → 15 - x6 < (n : Int) → Q 292 [(6, (0, 0, 0, 15, x6)), (5, (0, 0, 0, 15, x5)), (4, (0, 0, 0, 15, x4)), (0, (2, 60, 0, 0, 0))] [] M1 := by
    intro n
    induction n with
    | zero => intro x6 x5 x4 M1 b6 b5 b4 hc hfr hms; omega
    | succ n ih3 =>
      intro x6 x5 x4 M1 b6 b5 b4 hc hfr hms3
      refine hgo.1 16 [140, 217, 227, 292, 322] 292 _ _ _ ?_
      refine And.intro ?_ ?_
      · intro (c1 : x4 ≤ x6)
        show Q 322 [(6, (0, 0, 0, 0, 0)), (5, (0, 0, 0, 15, x5)), (4, (0, 0, 0, 15, x4)), (0, (2, 60, 0, 0, 0))] [] M1
        refine hgo.2.1 322 _ [(6, (0, 0, 0, 15, 0)), (5, (0, 0, 0, 15, x5)), (0, (2, 60, 0, 0, 0))] _ _ (xa_subI rfl rfl (fun _ _ _ _ => by omega) (xa_subI rfl rfl (fun _ _ _ _ => by omega) (xa_subR rfl xa_sub0))) ?_
        exact loop4 16 0 x5 M1 (by omega) (by omega) hc hfr (by omega)
      · intro (c1 : x6 < x4)
        refine And.intro (show 0 ≤ x6 ∧ x6 < 15 by omega) ?_
        refine And.intro ?_ ?_
        · intro (c2 : (M1 85 x6) = 1)
          show Q 292 [(6, (0, 0, 1, 16, x6 + 1)), (5, (0, 0, 0, 15, x5)), (4, (0, 0, 0, 15, x4)), (0, (2, 60, 0, 0, 0))] [] M1
          refine hgo.2.1 292 _ [(6, (0, 0, 0, 15, x6 + 1)), (5, (0, 0, 0, 15, x5)), (4, (0, 0, 0, 15, x4)), (0, (2, 60, 0, 0, 0))] _ _ (xa_subI rfl rfl (fun _ _ _ _ => by omega) (xa_subI rfl rfl (fun _ _ _ _ => by omega) (xa_subI rfl rfl (fun _ _ _ _ => by omega) (xa_subR rfl xa_sub0)))) ?_
          exact ih3 (x6 + 1) x5 x4 M1 (by omega) (by omega) (by omega) hc hfr (by omega)
        · intro (c2 : ¬ (M1 85 x6) = 1)
          show xa_wk post (some (0, 0, 0, 0, 0)) M1
          exact xa_wkI 0 rfl (fun _ _ => by omega) (k 0 _ (by omega) hfr)
  have loop1 : ∀ (n : Nat) (x6 x5 x4 : Int) (M1 : xa_M), 0 ≤ x6 ∧ x6 ≤ 15 → 0 ≤ x5 ∧ x5 ≤ 15 → 0 ≤ x4 ∧ x4 ≤ 15 → xm_cor M M1 → xm_fr M M1 → xm_ge M1 85 x4 → xm_ge M1 86 x5 → 15 - x6 < (n : Int) → Q 217 [(6, (0, 0, 0, 15, x6)), (5, (0, 0, 0, 15, x5)), (4, (0, 0, 0, 15, x4)), (0, (2, 60, 0, 0, 0))] [] M1 := by
    intro n
    induction n with
    | zero => intro x6 x5 x4 M1 b6 b5 b4 hc hfr hg85 hg86 hms; omega
    | succ n ih1 =>
      intro x6 x5 x4 M1 b6 b5 b4 hc hfr hg85 hg86 hms1
      obtain ⟨n0, hn0⟩ : ∃ n0, n0 = n := ⟨_, rfl⟩
      have loop2 : ∀ (n : Nat) (x7 x6 x5 x4 : Int) (M1 : xa_M), 0 ≤ x7 ∧ x7 ≤ 15 → 0 ≤ x6 ∧ x6 ≤ 14 → 0 ≤ x5 ∧ x5 ≤ 15 → 0 ≤ x4 ∧ x4 ≤ 15 → xm_cor M M1 → xm_fr M M1 → xm_ge M1 85 x4 → xm_ge M1 86 x5 → x6 < x4 → 14 - x6 < (n0 : Int) → 15 - x7 < (n : Int) → Q 227 [(7, (0, 0, 0, 15, x7)), (6, (0, 0, 0, 14, x6)), (5, (0, 0, 0, 15, x5)), (4, (0, 0, 0, 15, x4)), (0, (2, 60, 0, 0, 0))] [] M1 := by
        intro n
        induction n with
        | zero => intro x7 x6 x5 x4 M1 b7 b6 b5 b4 hc hfr hg85 hg86 h64 h60 hms; omega
        | succ n ih2 =>
          intro x7 x6 x5 x4 M1 b7 b6 b5 b4 hc hfr hg85 hg86 h64 h60 hms2
          have a1 := hg85 x6 (by omega) h64
          have a2 := fun h : x7 < x5 => hg86 x7 (by omega) h
          refine hgo.1 36 [140, 217, 227, 292, 322] 227 _ _ _ ?_
          refine And.intro ?_ ?_
          · intro (c1 : x5 ≤ x7)
            show Q 217 [(6, (0, 0, 1, 15, x6 + 1)), (7, (0, 0, 0, 15, x7)), (5, (0, 0, 0, 15, x5)), (4, (0, 0, 0, 15, x4)), (0, (2, 60, 0, 0, 0))] [] M1
            refine hgo.2.1 217 _ [(6, (0, 0, 0, 15, x6 + 1)), (5, (0, 0, 0, 15, x5)), (4, (0, 0, 0, 15, x4)), (0, (2, 60, 0, 0, 0))] _ _ (xa_subI rfl rfl (fun _ _ _ _ => by omega) (xa_subI rfl rfl (fun _ _ _ _ => by omega) (xa_subI rfl rfl (fun _ _ _ _ => by omega) (xa_subR rfl xa_sub0)))) ?_
            exact ih1 (x6 + 1) x5 x4 M1 (by omega) (by omega) (by omega) hc hfr hg85 hg86 (by omega)
          · intro (c1 : x7 < x5)
            refine And.intro (show 0 ≤ x7 ∧ x7 < 15 by omega) ?_
            show xa_C xm_I A h0 _ 229 [(1, 0, (-9223372036854775808), 9223372036854775807, M1 85 x6), (1, 0, (-9223372036854775808), 9223372036854775807, M1 86 x7)] M1 _
            refine ct_gcd3 (by omega) (by omega) (fun g2 eg2 pg2 qg2 ug2 => ?_)
            have tx := xm_td (x := M1 85 x6) (g := g2) (by omega) (by omega)
            have ty := xm_td (x := M1 86 x7) (g := g2) (by omega) (by omega)
            refine And.intro (show 0 ≤ x7 ∧ x7 < 15 by omega) ?_
            refine And.intro (show 0 ≤ x7 ∧ x7 < 15 by omega) ?_
            show Q 227 [(7, (0, 0, 1, 16, x7 + 1)), (8, (1, 0, 1, 9223372036854775807, g2)), (6, (0, 0, 0, 14, x6)), (5, (0, 0, 0, 15, x5)), (4, (0, 0, 0, 15, x4)), (0, (2, 60, 0, 0, 0))] [] (xa_up (xa_up M1 85 x6 ((M1 85 x6).tdiv g2)) 86 x7 ((M1 86 x7).tdiv g2))
            refine hgo.2.1 227 _ [(7, (0, 0, 0, 15, x7 + 1)), (6, (0, 0, 0, 14, x6)), (5, (0, 0, 0, 15, x5)), (4, (0, 0, 0, 15, x4)), (0, (2, 60, 0, 0, 0))] _ _ (xa_subI rfl rfl (fun _ _ _ _ => by omega) (xa_subI rfl rfl (fun _ _ _ _ => by omega) (xa_subI rfl rfl (fun _ _ _ _ => by omega) (xa_subI rfl rfl (fun _ _ _ _ => by omega) (xa_subR rfl xa_sub0))))) ?_
            exact ih2 (x7 + 1) x6 x5 x4 (xa_up (xa_up M1 85 x6 ((M1 85 x6).tdiv g2)) 86 x7 ((M1 86 x7).tdiv g2)) (by omega) (by omega) (by omega) (by omega) (xm_cor_a rfl (xm_cor_a rfl hc)) (xm_fr_u (by decide) (xm_fr_u (by decide) hfr)) (xm_ge_o (by decide) (xm_ge_i hg85 (by omega))) (xm_ge_i (xm_ge_o (by decide) hg86) (by omega)) (by omega) (by omega) (by omega)
      refine hgo.1 10 [140, 217, 227, 292, 322] 217 _ _ _ ?_
      refine And.intro ?_ ?_
      · intro (c1 : x4 ≤ x6)
        show Q 292 [(6, (0, 0, 0, 0, 0)), (5, (0, 0, 0, 15, x5)), (4, (0, 0, 0, 15, x4)), (0, (2, 60, 0, 0, 0))] [] M1
        refine hgo.2.1 292 _ [(6, (0, 0, 0, 15, 0)), (5, (0, 0, 0, 15, x5)), (4, (0, 0, 0, 15, x4)), (0, (2, 60, 0, 0, 0))] _ _ (xa_subI rfl rfl (fun _ _ _ _ => by omega) (xa_subI rfl rfl (fun _ _ _ _ => by omega) (xa_subI rfl rfl (fun _ _ _ _ => by omega) (xa_subR rfl xa_sub0)))) ?_
        exact loop3 16 0 x5 x4 M1 (by omega) (by omega) (by omega) hc hfr (by omega)
      · intro (c1 : x6 < x4)
        show Q 227 [(7, (0, 0, 0, 0, 0)), (6, (0, 0, 0, 15, x6)), (5, (0, 0, 0, 15, x5)), (4, (0, 0, 0, 15, x4)), (0, (2, 60, 0, 0, 0))] [] M1
        refine hgo.2.1 227 _ [(7, (0, 0, 0, 15, 0)), (6, (0, 0, 0, 14, x6)), (5, (0, 0, 0, 15, x5)), (4, (0, 0, 0, 15, x4)), (0, (2, 60, 0, 0, 0))] _ _ (xa_subI rfl rfl (fun _ _ _ _ => by omega) (xa_subI rfl rfl (fun _ _ _ _ => by omega) (xa_subI rfl rfl (fun _ _ _ _ => by omega) (xa_subI rfl rfl (fun _ _ _ _ => by omega) (xa_subR rfl xa_sub0))))) ?_
        exact loop2 16 0 x6 x5 x4 M1 (by omega) (by omega) (by omega) (by omega) hc hfr hg85 hg86 (by omega) (by omega) (by omega)
  have loop0 : ∀ (n : Nat) (x6 x5 x4 : Int) (M1 : xa_M), 0 ≤ x6 ∧ x6 ≤ 14 → 1 ≤ x5 ∧ x5 ≤ 15 → 1 ≤ x4 ∧ x4 ≤ 15 → xm_cor M M1 → xm_fr M M1 → xm_ge M1 85 x4 → xm_ge M1 86 x5 → x4 ≤ x6 + 1 → x5 ≤ x6 + 1 → 14 - x6 < (n : Int) → Q 140 [(6, (0, 0, 0, 14, x6)), (5, (0, 0, 1, 15, x5)), (4, (0, 0, 1, 15, x4)), (0, (2, 60, 0, 0, 0))] [] M1 := by
    intro n
    induction n with
    | zero => intro x6 x5 x4 M1 b6 b5 b4 hc hfr hg85 hg86 h46 h56 hms; omega
    | succ n ih0 =>
      intro x6 x5 x4 M1 b6 b5 b4 hc hfr hg85 hg86 h46 h56 hms0
      refine hgo.2.2 _ _ _ _ (fun hM1 _ => ?_)
      have b32 := xm_f32 hM1
      have e32 := hfr 60 32 (by decide) (by decide)
      have e84 := hfr 84 x6 (by decide) (by decide)
      have h10 := fun h : x6 < M 60 32 => ht x6 (by omega) h
      refine hgo.1 31 [140, 217, 227, 292, 322] 140 _ _ _ ?_
      refine And.intro ?_ ?_
      · intro (c1 : (M1 60 32) ≤ x6)
        show Q 217 [(6, (0, 0, 0, 0, 0)), (5, (0, 0, 1, 15, x5)), (4, (0, 0, 1, 15, x4)), (0, (2, 60, 0, 0, 0))] [] M1
        refine hgo.2.1 217 _ [(6, (0, 0, 0, 15, 0)), (5, (0, 0, 0, 15, x5)), (4, (0, 0, 0, 15, x4)), (0, (2, 60, 0, 0, 0))] _ _ (xa_subI rfl rfl (fun _ _ _ _ => by omega) (xa_subI rfl rfl (fun _ _ _ _ => by omega) (xa_subI rfl rfl (fun _ _ _ _ => by omega) (xa_subR rfl xa_sub0)))) ?_
        exact loop1 16 0 x5 x4 M1 (by omega) (by omega) (by omega) hc hfr hg85 hg86 (by omega)
      · intro (c1 : x6 < (M1 60 32))
        refine And.intro (show 0 ≤ x6 ∧ x6 < 14 by omega) ?_
        refine And.intro ?_ ?_
        · intro (c2 : (M1 81 x6) ≤ 0)
          refine And.intro (show 0 ≤ x6 ∧ x6 < 14 by omega) ?_
          refine And.intro ?_ ?_
          · intro (c3 : 0 ≤ (M1 81 x6))
            show Q 140 [(6, (0, 0, 1, 15, x6 + 1)), (5, (0, 0, 1, 15, x5)), (4, (0, 0, 1, 15, x4)), (0, (2, 60, 0, 0, 0))] [] M1
            refine hgo.2.1 140 _ [(6, (0, 0, 0, 14, x6 + 1)), (5, (0, 0, 1, 15, x5)), (4, (0, 0, 1, 15, x4)), (0, (2, 60, 0, 0, 0))] _ _ (xa_subI rfl rfl (fun _ _ _ _ => by omega) (xa_subI rfl rfl (fun _ _ _ _ => by omega) (xa_subI rfl rfl (fun _ _ _ _ => by omega) (xa_subR rfl xa_sub0)))) ?_
            exact ih0 (x6 + 1) x5 x4 M1 (by omega) (by omega) (by omega) hc hfr hg85 hg86 (by omega) (by omega) (by omega)
          · intro (c3 : (M1 81 x6) < 0)
            refine And.intro (show 0 ≤ x6 ∧ x6 < 14 by omega) ?_
            refine And.intro (show 0 ≤ x5 ∧ x5 < 15 by omega) ?_
            show Q 140 [(6, (0, 0, 1, 15, x6 + 1)), (5, (0, 0, 2, 16, x5 + 1)), (4, (0, 0, 1, 15, x4)), (0, (2, 60, 0, 0, 0))] [] (xa_up M1 86 x5 (M1 84 x6))
            refine hgo.2.1 140 _ [(6, (0, 0, 0, 14, x6 + 1)), (5, (0, 0, 1, 15, x5 + 1)), (4, (0, 0, 1, 15, x4)), (0, (2, 60, 0, 0, 0))] _ _ (xa_subI rfl rfl (fun _ _ _ _ => by omega) (xa_subI rfl rfl (fun _ _ _ _ => by omega) (xa_subI rfl rfl (fun _ _ _ _ => by omega) (xa_subR rfl xa_sub0)))) ?_
            exact ih0 (x6 + 1) (x5 + 1) x4 (xa_up M1 86 x5 (M1 84 x6)) (by omega) (by omega) (by omega) (xm_cor_a rfl hc) (xm_fr_u (by decide) hfr) (xm_ge_o (by decide) hg85) (xm_ge_s hg86 (by omega)) (by omega) (by omega) (by omega)
        · intro (c2 : 0 < (M1 81 x6))
          refine And.intro (show 0 ≤ x6 ∧ x6 < 14 by omega) ?_
          refine And.intro (show 0 ≤ x4 ∧ x4 < 15 by omega) ?_
          show Q 140 [(6, (0, 0, 1, 15, x6 + 1)), (4, (0, 0, 2, 16, x4 + 1)), (5, (0, 0, 1, 15, x5)), (0, (2, 60, 0, 0, 0))] [] (xa_up M1 85 x4 (M1 84 x6))
          refine hgo.2.1 140 _ [(6, (0, 0, 0, 14, x6 + 1)), (5, (0, 0, 1, 15, x5)), (4, (0, 0, 1, 15, x4 + 1)), (0, (2, 60, 0, 0, 0))] _ _ (xa_subI rfl rfl (fun _ _ _ _ => by omega) (xa_subI rfl rfl (fun _ _ _ _ => by omega) (xa_subI rfl rfl (fun _ _ _ _ => by omega) (xa_subR rfl xa_sub0)))) ?_
          exact ih0 (x6 + 1) x5 (x4 + 1) (xa_up M1 85 x4 (M1 84 x6)) (by omega) (by omega) (by omega) (xm_cor_a rfl hc) (xm_fr_u (by decide) hfr) (xm_ge_s hg85 (by omega)) (xm_ge_o (by decide) hg86) (by omega) (by omega) (by omega)
  refine hgo.1 31 [140, 217, 227, 292, 322] 97 _ _ _ ?_
  show Q 140 [(6, (0, 0, 0, 0, 0)), (5, (0, 0, 1, 1, 0 + 1)), (4, (0, 0, 1, 1, 0 + 1)), (1, (0, 0, 0, 7, p)), (0, (2, 60, 0, 0, 0))] [] (xa_up (xa_up M 85 0 (M 71 p)) 86 0 (M 70 p))
  refine hgo.2.1 140 _ [(6, (0, 0, 0, 14, 0)), (5, (0, 0, 1, 15, 0 + 1)), (4, (0, 0, 1, 15, 0 + 1)), (0, (2, 60, 0, 0, 0))] _ _ (xa_subI rfl rfl (fun _ _ _ _ => by omega) (xa_subI rfl rfl (fun _ _ _ _ => by omega) (xa_subI rfl rfl (fun _ _ _ _ => by omega) (xa_subR rfl xa_sub0)))) ?_
  exact loop0 15 0 (0 + 1) (0 + 1) (xa_up (xa_up M 85 0 (M 71 p)) 86 0 (M 70 p)) (by omega) (by omega) (by omega) (xm_cor_a rfl (xm_cor_a rfl xm_cor_r)) (xm_fr_u (by decide) (xm_fr_u (by decide) (fun _ _ _ _ => rfl))) (xm_ge_o (by decide) (xm_ge_s xm_ge_z (by omega))) (xm_ge_s (xm_ge_o (by decide) xm_ge_z) (by omega)) (by omega) (by omega) (by omega)
