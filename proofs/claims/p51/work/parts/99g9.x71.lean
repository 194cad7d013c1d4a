set_option maxRecDepth 20000
/-- scratch, but for the row's numbers -/
abbrev xw_scr (q : Nat) (j : Int) : Prop := (75 ≤ q ∧ q ≤ 95) ∨ (q = 60 ∧ ((20 ≤ j ∧ j ≤ 53) ∨ j = 68)) ∨ (q = 74 ∧ ¬ (0 ≤ j ∧ j < 32))
def xw_cor (M M' : xa_M) : Prop := ∀ q j, ¬ xw_scr q j → M' q j = M q j
theorem xw_to {M M1 : xa_M} (h : xw_cor M M1) : xm_cor M M1 := fun q j hn => h q j (fun e => hn (by omega))
theorem xw_74 {M M1 : xa_M} (h : xw_cor M M1) {i : Int} (i0 : 0 ≤ i) (i1 : i < 32) : M1 74 i = M 74 i := h 74 i (fun e => by omega)
theorem xw_cor_r {M : xa_M} : xw_cor M M := fun _ _ _ => rfl
theorem xw_cor_t {M M1 M2 : xa_M} (h : xw_cor M M1) (h2 : xw_cor M1 M2) : xw_cor M M2 := fun q j hn => (h2 q j hn).trans (h q j hn)
theorem xw_cor_u {M M1 : xa_M} {q : Nat} {j v : Int} (hs : xw_scr q j) (h : xw_cor M M1) : xw_cor M (xa_up M1 q j v) := by
  intro q' j' hn
  rw [xa_up_ne (fun e => hn (by rw [e.1, e.2]; exact hs))]
  exact h q' j' hn
theorem xw_cor_a {M M1 : xa_M} {q : Nat} {j v : Int} (hq : (Nat.ble 75 q && Nat.ble q 95) = true) (h : xw_cor M M1) : xw_cor M (xa_up M1 q j v) := by
  rw [Bool.and_eq_true, Nat.ble_eq, Nat.ble_eq] at hq
  exact xw_cor_u (Or.inl hq) h
theorem xw_cor_f {M M1 : xa_M} {j v : Int} (hj : (20 ≤ j ∧ j ≤ 53) ∨ j = 68) (h : xw_cor M M1) : xw_cor M (xa_up M1 60 j v) := xw_cor_u (Or.inr (Or.inl ⟨rfl, hj⟩)) h
theorem xw_corq {M M1 : xa_M} (h : xw_cor M M1) (q : Nat) (hq : (Nat.ble 61 q && (Nat.ble q 73 || Nat.ble 96 q)) = true) (j : Int) : M1 q j = M q j := xm_corq (xw_to h) q hq j
theorem xw_corf {M M1 : xa_M} (h : xw_cor M M1) (j : Int) (hj : ¬ ((20 ≤ j ∧ j ≤ 53) ∨ j = 68)) : M1 60 j = M 60 j := xm_corf (xw_to h) j hj
theorem xw_Inv_cor {M M1 : xa_M} (h : xw_cor M M1) (hI : xm_Inv M) : xm_Inv M1 := xm_Inv_cor (xw_to h) hI
theorem xw_84_c {M M1 : xa_M} (h : xm_84 M M1) : xw_cor M M1 := by
  intro q j hs
  refine h q j (fun e => hs ?_)
  subst e
  exact Or.inl (by decide)
/-- a call of the reference that writes no longs and not the row's size -/
theorem rw_fx {A : Nat → Nat} {h0 : g_H} {d j : Nat} {vs : List xa_V} {M : xa_M} {post : Option xa_V → xa_M → Prop} (hj : f_T rw_B j = true) (hC : xa_C xm_I A h0 d j vs M (fun o M1 => (M1 60 20 = M 60 20 ∧ ∀ i : Int, 0 ≤ i → i < 32 → M1 74 i = M 74 i) → post o M1)) : xa_C xm_I A h0 d j vs M post := by
  intro h xs hM hx P hP
  refine f_run rw_T_ok _ _ _ _ _ _ _ _ hj (hC h xs hM hx (fun r h' => f_Fr rz_E rw_K h h' → P r h') (fun v M' x h' hv hx' hM' hF => hP v M' x h' (hv ⟨?_, fun i i0 i1 => ?_⟩) hx' hM')) (fun r h' hp hF => hp hF)
  · obtain ⟨f, e2, -⟩ := hM.2.1 60 _ _ rfl
    have a := iv_num_F (k := 20) hF e2 (by decide)
    have a1 : iv_num h 60 20 = M 60 20 := iv_num_M (j := 20) hM rfl (by decide) (by decide) (by show (0 : Nat) < 2; decide)
    have a2 : iv_num h' 60 20 = M' 60 20 := iv_num_M (j := 20) hM' rfl (by decide) (by decide) (by show (0 : Nat) < 2; decide)
    rw [← a1, ← a2]
    exact a
  · obtain ⟨f, e2, -⟩ := hM.2.1 74 _ _ rfl
    obtain ⟨n, rfl⟩ := Int.eq_ofNat_of_zero_le i0
    have a1 : iv_num h 74 (n : Int) = M 74 (n : Int) := iv_num_M (j := (n : Int)) hM rfl i0 i1 (by show (1 : Nat) < 2; decide)
    have a2 : iv_num h' 74 (n : Int) = M' 74 (n : Int) := iv_num_M (j := (n : Int)) hM' rfl i0 i1 (by show (1 : Nat) < 2; decide)
    rw [← a1, ← a2]
    exact rw_fra hF e2 _
theorem xw_of {M M1 : xa_M} (h : xm_cor M M1) (h2 : M1 60 20 = M 60 20 ∧ ∀ i : Int, 0 ≤ i → i < 32 → M1 74 i = M 74 i) : xw_cor M M1 := fun q j hn => by
  by_cases c : q = 74
  · subst c
    exact h2.2 j (by omega) (by omega)
  · exact h q j (fun e => hn (by omega))
theorem xw_ct_findTurns {A : Nat → Nat} {h0 : g_H} {d : Nat} {M : xa_M} {post : Option xa_V → xa_M → Prop} {l1 u1 : Int} {a : Int} (hI : xm_Inv M) (k : ∀ (v : Int) (M1 : xa_M), (v = 0 ∨ v = -3 ∨ v = -5) → xw_cor M M1 → xm_trn M1 → xm_FT a M v M1 → post (some (0, 0, -5, 0, v)) M1) : xa_C xm_I A h0 (d + 4) 227 [(2, 60, 0, 0, 0), (0, 0, l1, u1, a)] M post := by
  refine xa_C_arg [(2, 60, 0, 0, 0), (0, 0, (-2147483648), 2147483647, a)] (xa_svR (xa_svI (fun _ _ _ _ => by omega) xa_sv0)) (xa_C_wk ?_)
  refine xa_meth (Q0 := (7, 1, false, 0, 0, 12)) (by decide +kernel) ⟨rfl, rfl⟩ (full := s_c_227) rfl rfl ?_
  intro hM hv Q hgo
  have b6 := xm_f6 hM
  have loopD : ∀ (n : Nat) (m z : Int) (M1 : xa_M), 0 ≤ m → m ≤ 16 → 0 ≤ z → z ≤ 1 → xw_cor M M1 → xm_trn M1 → (∀ v, v = (if (xm_fD a n m z M1).1 = 0 then 0 else -3) → xm_FT a M v (xm_fD a n m z M1).2) → 16 - m < (n : Int) → Q 251 [(4, (0, 0, 0, 16, m)), (3, (0, 0, 0, 1, z)), (0, (2, 60, 0, 0, 0)), (1, (0, 0, (-2147483648), 2147483647, a))] [] M1 := by
    intro n
    induction n with
    | zero => intro m z M1 h1 h2 z0 z1 hc hT hE hms; omega
    | succ n ih =>
      intro m z M1 h1 h2 z0 z1 hc hT hE hms
      refine hgo.2.2 _ _ _ _ (fun hM1 _ => ?_)
      have hI1 := xw_Inv_cor hc hI
      have b6 := xm_f6 hM1
      have ms := fun h : m < M1 60 6 => xm_msh hM1 hI1 h1 h
      have ra : m < M1 60 6 → M1 77 (M1 64 (M1 66 m)) = 1 → 1 ≤ M1 76 (M1 64 (M1 66 m)) := fun h => hT _ (ms h).2.2.1.1 (by have := ms h; omega)
      have rb : m < M1 60 6 → M1 77 (M1 64 (M1 67 m)) = 1 → 1 ≤ M1 76 (M1 64 (M1 67 m)) := fun h => hT _ (ms h).2.2.2.1.1 (by have := ms h; omega)
      have hxy : M1 64 (M1 66 m) = M1 64 (M1 67 m) → M1 77 (M1 64 (M1 66 m)) = M1 77 (M1 64 (M1 67 m)) := fun h => by rw [h]
      refine hgo.1 70 [2, 45, 53, 251] 251 _ _ _ ?_
      refine And.intro ?_ ?_
      · intro (c1 : (M1 60 6) ≤ m)
        refine And.intro ?_ ?_
        · intro (c2 : z = 0)
          show xa_wk post (some (0, 0, 0, 0, 0)) M1
          rw [xm_fD_end (by omega)] at hE
          exact xa_wkI 0 rfl (fun _ _ => by omega) (k 0 _ (by omega) hc hT (hE _ (by dsimp only; split <;> omega)))
        · intro (c2 : ¬ z = 0)
          show xa_wk post (some (0, 0, (-3), (-3), (-3))) M1
          rw [xm_fD_end (by omega)] at hE
          exact xa_wkI (-3) rfl (fun _ _ => by omega) (k (-3) _ (by omega) hc hT (hE _ (by dsimp only; split <;> omega)))
      · intro (c1 : m < (M1 60 6))
        refine And.intro (show 0 ≤ m ∧ m < 16 by omega) ?_
        refine And.intro (show 0 ≤ m ∧ m < 16 by omega) ?_
        refine And.intro ?_ ?_
        · intro (c3 : m = a)
          show Q 251 [(4, (0, 0, 1, 17, m + 1)), (6, (0, 0, 0, 9, M1 64 (M1 67 m))), (5, (0, 0, 0, 9, M1 64 (M1 66 m))), (3, (0, 0, 0, 1, z)), (0, (2, 60, 0, 0, 0)), (1, (0, 0, (-2147483648), 2147483647, a))] [] M1
          refine hgo.2.1 251 _ [(4, (0, 0, 0, 16, m + 1)), (3, (0, 0, 0, 1, z)), (0, (2, 60, 0, 0, 0)), (1, (0, 0, (-2147483648), 2147483647, a))] _ _ (xa_subI rfl rfl (fun _ _ _ _ => by omega) (xa_subI rfl rfl (fun _ _ _ _ => by omega) (xa_subR rfl (xa_subI rfl rfl (fun _ _ _ _ => by omega) xa_sub0)))) ?_
          rw [xm_fD_skip (by omega) (by omega)] at hE
          exact ih (m + 1) z M1 (by omega) (by omega) (by omega) (by omega) hc (by first | exact hT | (intro b b0 b1 b2; simp [xa_up] at b2 ⊢; exact hT b b0 b1 b2)) hE (by omega)
        · intro (c3 : ¬ m = a)
          refine And.intro ?_ ?_
          · intro (c4 : (M1 77 (M1 64 (M1 66 m))) = 0)
            show Q 251 [(4, (0, 0, 1, 17, m + 1)), (6, (0, 0, 0, 9, M1 64 (M1 67 m))), (5, (0, 0, 0, 9, M1 64 (M1 66 m))), (3, (0, 0, 0, 1, z)), (0, (2, 60, 0, 0, 0)), (1, (0, 0, (-2147483648), 2147483647, a))] [] M1
            refine hgo.2.1 251 _ [(4, (0, 0, 0, 16, m + 1)), (3, (0, 0, 0, 1, z)), (0, (2, 60, 0, 0, 0)), (1, (0, 0, (-2147483648), 2147483647, a))] _ _ (xa_subI rfl rfl (fun _ _ _ _ => by omega) (xa_subI rfl rfl (fun _ _ _ _ => by omega) (xa_subR rfl (xa_subI rfl rfl (fun _ _ _ _ => by omega) xa_sub0)))) ?_
            rw [xm_fD_skip (by omega) (by omega)] at hE
            exact ih (m + 1) z M1 (by omega) (by omega) (by omega) (by omega) hc (by first | exact hT | (intro b b0 b1 b2; simp [xa_up] at b2 ⊢; exact hT b b0 b1 b2)) hE (by omega)
          · intro (c4 : ¬ (M1 77 (M1 64 (M1 66 m))) = 0)
            refine And.intro ?_ ?_
            · intro (c5 : ¬ (M1 77 (M1 64 (M1 67 m))) = 0)
              refine And.intro (show 0 ≤ m ∧ m < 16 by omega) ?_
              refine And.intro (show 0 ≤ m ∧ m < 16 by omega) ?_
              show xa_C xm_I A h0 _ 228 [(2, 60, 0, 0, 0), (0, 0, 0, 9, M1 64 (M1 66 m)), (0, 0, 0, 13, M1 66 m), (0, 0, 0, 13, M1 67 m)] M1 _
              refine ct_lead (by decide) (by decide) (by decide) (by decide) (by decide) (by decide) (by omega) (by omega) (fun u6 l6 bu6 bl6 eg6 => ?_)
              refine And.intro ?_ ?_
              · intro (c7 : ¬ z = 0)
                show Q 251 [(4, (0, 0, 1, 17, m + 1)), (3, (0, 0, 1, 1, 1)), (6, (0, 0, 0, 9, M1 64 (M1 67 m))), (5, (0, 0, 0, 9, M1 64 (M1 66 m))), (0, (2, 60, 0, 0, 0)), (1, (0, 0, (-2147483648), 2147483647, a))] [] (xa_up (xa_up M1 60 25 u6) 60 26 l6)
                refine hgo.2.1 251 _ [(4, (0, 0, 0, 16, m + 1)), (3, (0, 0, 0, 1, 1)), (0, (2, 60, 0, 0, 0)), (1, (0, 0, (-2147483648), 2147483647, a))] _ _ (xa_subI rfl rfl (fun _ _ _ _ => by omega) (xa_subI rfl rfl (fun _ _ _ _ => by omega) (xa_subR rfl (xa_subI rfl rfl (fun _ _ _ _ => by omega) xa_sub0)))) ?_
                rw [xm_fD_go (z2 := 1) (by omega) (by omega) eg6 (by split <;> omega)] at hE
                exact ih (m + 1) 1 (xa_up (xa_up M1 60 25 u6) 60 26 l6) (by omega) (by omega) (by omega) (by omega) (xw_cor_f (by omega) (xw_cor_f (by omega) hc)) (by first | exact hT | (intro b b0 b1 b2; simp [xa_up] at b2 ⊢; exact hT b b0 b1 b2)) hE (by omega)
              · intro (c7 : z = 0)
                refine And.intro ?_ ?_
                · intro (c8 : ¬ u6 = (M1 75 (M1 64 (M1 67 m))))
                  show Q 251 [(4, (0, 0, 1, 17, m + 1)), (3, (0, 0, 1, 1, 1)), (6, (0, 0, 0, 9, M1 64 (M1 67 m))), (5, (0, 0, 0, 9, M1 64 (M1 66 m))), (0, (2, 60, 0, 0, 0)), (1, (0, 0, (-2147483648), 2147483647, a))] [] (xa_up (xa_up M1 60 25 u6) 60 26 l6)
                  refine hgo.2.1 251 _ [(4, (0, 0, 0, 16, m + 1)), (3, (0, 0, 0, 1, 1)), (0, (2, 60, 0, 0, 0)), (1, (0, 0, (-2147483648), 2147483647, a))] _ _ (xa_subI rfl rfl (fun _ _ _ _ => by omega) (xa_subI rfl rfl (fun _ _ _ _ => by omega) (xa_subR rfl (xa_subI rfl rfl (fun _ _ _ _ => by omega) xa_sub0)))) ?_
                  rw [xm_fD_go (z2 := 1) (by omega) (by omega) eg6 (by split <;> omega)] at hE
                  exact ih (m + 1) 1 (xa_up (xa_up M1 60 25 u6) 60 26 l6) (by omega) (by omega) (by omega) (by omega) (xw_cor_f (by omega) (xw_cor_f (by omega) hc)) (by first | exact hT | (intro b b0 b1 b2; simp [xa_up] at b2 ⊢; exact hT b b0 b1 b2)) hE (by omega)
                · intro (c8 : u6 = (M1 75 (M1 64 (M1 67 m))))
                  refine And.intro ?_ ?_
                  · intro (c9 : l6 = (M1 76 (M1 64 (M1 67 m))))
                    show Q 251 [(4, (0, 0, 1, 17, m + 1)), (3, (0, 0, 0, 0, 0)), (6, (0, 0, 0, 9, M1 64 (M1 67 m))), (5, (0, 0, 0, 9, M1 64 (M1 66 m))), (0, (2, 60, 0, 0, 0)), (1, (0, 0, (-2147483648), 2147483647, a))] [] (xa_up (xa_up M1 60 25 u6) 60 26 l6)
                    refine hgo.2.1 251 _ [(4, (0, 0, 0, 16, m + 1)), (3, (0, 0, 0, 1, 0)), (0, (2, 60, 0, 0, 0)), (1, (0, 0, (-2147483648), 2147483647, a))] _ _ (xa_subI rfl rfl (fun _ _ _ _ => by omega) (xa_subI rfl rfl (fun _ _ _ _ => by omega) (xa_subR rfl (xa_subI rfl rfl (fun _ _ _ _ => by omega) xa_sub0)))) ?_
                    rw [xm_fD_go (z2 := 0) (by omega) (by omega) eg6 (by split <;> omega)] at hE
                    exact ih (m + 1) 0 (xa_up (xa_up M1 60 25 u6) 60 26 l6) (by omega) (by omega) (by omega) (by omega) (xw_cor_f (by omega) (xw_cor_f (by omega) hc)) (by first | exact hT | (intro b b0 b1 b2; simp [xa_up] at b2 ⊢; exact hT b b0 b1 b2)) hE (by omega)
                  · intro (c9 : ¬ l6 = (M1 76 (M1 64 (M1 67 m))))
                    show Q 251 [(4, (0, 0, 1, 17, m + 1)), (3, (0, 0, 1, 1, 1)), (6, (0, 0, 0, 9, M1 64 (M1 67 m))), (5, (0, 0, 0, 9, M1 64 (M1 66 m))), (0, (2, 60, 0, 0, 0)), (1, (0, 0, (-2147483648), 2147483647, a))] [] (xa_up (xa_up M1 60 25 u6) 60 26 l6)
                    refine hgo.2.1 251 _ [(4, (0, 0, 0, 16, m + 1)), (3, (0, 0, 0, 1, 1)), (0, (2, 60, 0, 0, 0)), (1, (0, 0, (-2147483648), 2147483647, a))] _ _ (xa_subI rfl rfl (fun _ _ _ _ => by omega) (xa_subI rfl rfl (fun _ _ _ _ => by omega) (xa_subR rfl (xa_subI rfl rfl (fun _ _ _ _ => by omega) xa_sub0)))) ?_
                    rw [xm_fD_go (z2 := 1) (by omega) (by omega) eg6 (by split <;> omega)] at hE
                    exact ih (m + 1) 1 (xa_up (xa_up M1 60 25 u6) 60 26 l6) (by omega) (by omega) (by omega) (by omega) (xw_cor_f (by omega) (xw_cor_f (by omega) hc)) (by first | exact hT | (intro b b0 b1 b2; simp [xa_up] at b2 ⊢; exact hT b b0 b1 b2)) hE (by omega)
            · intro (c5 : (M1 77 (M1 64 (M1 67 m))) = 0)
              show Q 251 [(4, (0, 0, 1, 17, m + 1)), (6, (0, 0, 0, 9, M1 64 (M1 67 m))), (5, (0, 0, 0, 9, M1 64 (M1 66 m))), (3, (0, 0, 0, 1, z)), (0, (2, 60, 0, 0, 0)), (1, (0, 0, (-2147483648), 2147483647, a))] [] M1
              refine hgo.2.1 251 _ [(4, (0, 0, 0, 16, m + 1)), (3, (0, 0, 0, 1, z)), (0, (2, 60, 0, 0, 0)), (1, (0, 0, (-2147483648), 2147483647, a))] _ _ (xa_subI rfl rfl (fun _ _ _ _ => by omega) (xa_subI rfl rfl (fun _ _ _ _ => by omega) (xa_subR rfl (xa_subI rfl rfl (fun _ _ _ _ => by omega) xa_sub0)))) ?_
              rw [xm_fD_skip (by omega) (by omega)] at hE
              exact ih (m + 1) z M1 (by omega) (by omega) (by omega) (by omega) hc (by first | exact hT | (intro b b0 b1 b2; simp [xa_up] at b2 ⊢; exact hT b b0 b1 b2)) hE (by omega)
  have loopB : ∀ (n : Nat) (z : Int) (M0 : xa_M), 0 ≤ z → z ≤ 1 → xw_cor M M0 → xm_trn M0 → (∀ v M9, xm_res a (xm_fB a n z M0) v M9 → xm_FT a M v M9) → (2 * (10 - xm_R M0) + z).toNat < n → Q 45 [(2, (0, 0, 0, 1, z)), (0, (2, 60, 0, 0, 0)), (1, (0, 0, (-2147483648), 2147483647, a))] [] M0 := by
    intro n
    induction n with
    | zero => intro z M0 _ _ _ _ _ h; omega
    | succ nB ihB =>
      intro z M0 z00 z01 hc0 hT0 hE0 hms
      refine hgo.2.2 _ _ _ _ (fun hM0 _ => ?_)
      have r0 := xm_R_le hM0
      refine hgo.1 11 [2, 45, 53, 251] 45 _ _ _ ?_
      refine And.intro ?_ ?_
      · intro (c1 : z = 0)
        show Q 251 [(4, (0, 0, 0, 0, 0)), (3, (0, 0, 0, 0, 0)), (2, (0, 0, 0, 1, z)), (0, (2, 60, 0, 0, 0)), (1, (0, 0, (-2147483648), 2147483647, a))] [] M0
        refine hgo.2.1 251 _ [(4, (0, 0, 0, 16, 0)), (3, (0, 0, 0, 1, 0)), (0, (2, 60, 0, 0, 0)), (1, (0, 0, (-2147483648), 2147483647, a))] _ _ (xa_subI rfl rfl (fun _ _ _ _ => by omega) (xa_subI rfl rfl (fun _ _ _ _ => by omega) (xa_subR rfl (xa_subI rfl rfl (fun _ _ _ _ => by omega) xa_sub0)))) ?_
        rw [xm_fB, if_pos (by omega)] at hE0
        exact loopD 17 0 0 M0 (by omega) (by omega) (by omega) (by omega) hc0 hT0 (fun v hv9 => hE0 _ _ (And.intro hv9 rfl)) (by omega)
      · intro (c1 : ¬ z = 0)
        have loopC : ∀ (n : Nat) (m z : Int) (M1 : xa_M), 0 ≤ m → m ≤ 16 → 0 ≤ z → z ≤ 1 → xw_cor M M1 → xm_trn M1 → xm_R M0 + z ≤ xm_R M1 → (∀ v M9, xm_res a (xm_bd a nB (xm_fC a n m z M1)) v M9 → xm_FT a M v M9) → 16 - m < (n : Int) → Q 53 [(3, (0, 0, 0, 16, m)), (2, (0, 0, 0, 1, z)), (0, (2, 60, 0, 0, 0)), (1, (0, 0, (-2147483648), 2147483647, a))] [] M1 := by
          intro n
          induction n with
          | zero => intro m z M1 h1 h2 z0 z1 hc hT hR hE hms; omega
          | succ n ihC =>
            intro m z M1 h1 h2 z0 z1 hc hT hR hE hms
            refine hgo.2.2 _ _ _ _ (fun hM1 _ => ?_)
            have hI1 := xw_Inv_cor hc hI
            have b6 := xm_f6 hM1
            have ms := fun h : m < M1 60 6 => xm_msh hM1 hI1 h1 h
            have ra : m < M1 60 6 → M1 77 (M1 64 (M1 66 m)) = 1 → 1 ≤ M1 76 (M1 64 (M1 66 m)) := fun h => hT _ (ms h).2.2.1.1 (by have := ms h; omega)
            have rb : m < M1 60 6 → M1 77 (M1 64 (M1 67 m)) = 1 → 1 ≤ M1 76 (M1 64 (M1 67 m)) := fun h => hT _ (ms h).2.2.2.1.1 (by have := ms h; omega)
            have hxy : M1 64 (M1 66 m) = M1 64 (M1 67 m) → M1 77 (M1 64 (M1 66 m)) = M1 77 (M1 64 (M1 67 m)) := fun h => by rw [h]
            refine hgo.1 90 [2, 45, 53, 251] 53 _ _ _ ?_
            refine And.intro ?_ ?_
            · intro (c1 : (M1 60 6) ≤ m)
              show Q 45 [(3, (0, 0, 0, 16, m)), (2, (0, 0, 0, 1, z)), (0, (2, 60, 0, 0, 0)), (1, (0, 0, (-2147483648), 2147483647, a))] [] M1
              refine hgo.2.1 45 _ [(2, (0, 0, 0, 1, z)), (0, (2, 60, 0, 0, 0)), (1, (0, 0, (-2147483648), 2147483647, a))] _ _ (xa_subI rfl rfl (fun _ _ _ _ => by omega) (xa_subR rfl (xa_subI rfl rfl (fun _ _ _ _ => by omega) xa_sub0))) ?_
              rw [xm_fC_end (by omega)] at hE
              exact ihB z M1 z0 z1 hc hT hE (by omega)
            · intro (c1 : m < (M1 60 6))
              refine And.intro (show 0 ≤ m ∧ m < 16 by omega) ?_
              refine And.intro (show 0 ≤ m ∧ m < 16 by omega) ?_
              refine And.intro ?_ ?_
              · intro (c2 : m = a)
                show Q 53 [(3, (0, 0, 1, 17, m + 1)), (5, (0, 0, 0, 9, M1 64 (M1 67 m))), (4, (0, 0, 0, 9, M1 64 (M1 66 m))), (2, (0, 0, 0, 1, z)), (0, (2, 60, 0, 0, 0)), (1, (0, 0, (-2147483648), 2147483647, a))] [] M1
                refine hgo.2.1 53 _ [(3, (0, 0, 0, 16, m + 1)), (2, (0, 0, 0, 1, z)), (0, (2, 60, 0, 0, 0)), (1, (0, 0, (-2147483648), 2147483647, a))] _ _ (xa_subI rfl rfl (fun _ _ _ _ => by omega) (xa_subI rfl rfl (fun _ _ _ _ => by omega) (xa_subR rfl (xa_subI rfl rfl (fun _ _ _ _ => by omega) xa_sub0)))) ?_
                rw [xm_fC_skip (by omega) (by omega)] at hE
                exact ihC (m + 1) z M1 (by omega) (by omega) z0 z1 hc hT hR hE (by omega)
              · intro (c2 : ¬ m = a)
                refine And.intro ?_ ?_
                · intro (c3 : ¬ (M1 77 (M1 64 (M1 66 m))) = (M1 77 (M1 64 (M1 67 m))))
                  refine And.intro ?_ ?_
                  · intro (c4 : (M1 77 (M1 64 (M1 66 m))) = 0)
                    refine And.intro ?_ ?_
                    · intro (c5 : ¬ (M1 64 (M1 66 m)) = (M1 64 (M1 67 m)))
                      refine And.intro (show 0 ≤ m ∧ m < 16 by omega) ?_
                      refine And.intro (show 0 ≤ m ∧ m < 16 by omega) ?_
                      show xa_C xm_I A h0 _ 228 [(2, 60, 0, 0, 0), (0, 0, 0, 9, M1 64 (M1 67 m)), (0, 0, 0, 13, M1 67 m), (0, 0, 0, 13, M1 66 m)] M1 _
                      refine ct_lead (by decide) (by decide) (by decide) (by decide) (by decide) (by decide) (by omega) (by omega) (fun u6 l6 bu6 bl6 eg6 => ?_)
                      show xa_C xm_I A h0 _ 56 [(1, 0, (-400000000000000000), 400000000000000000, u6)] (xa_up (xa_up M1 60 25 u6) 60 26 l6) _
                      refine ct_absb 400000000000000000 (by decide) (by decide) (by decide) (fun a7 ea7 => ?_)
                      refine And.intro ?_ ?_
                      · intro (c8 : 1000000000000000 < a7)
                        show xa_wk post (some (0, 0, (-5), (-5), (-5))) (xa_up (xa_up M1 60 25 u6) 60 26 l6)
                        first
                          | (exfalso; omega)
                          | (rw [xm_fC_no (a := M1 64 (M1 67 m)) (b := M1 67 m) (c := M1 66 m) (t := M1 64 (M1 66 m)) (by omega) (by omega) (by omega) eg6 (by omega)] at hE
                             exact xa_wkI (-5) rfl (fun _ _ => by omega) (k (-5) _ (by omega) (xw_cor_f (by omega) (xw_cor_f (by omega) hc)) (fun b b0 b1 b2 => by simp [xa_up] at b2 ⊢; exact hT b b0 b1 b2) (hE _ _ rfl)))
                      · intro (c8 : a7 ≤ 1000000000000000)
                        refine And.intro ?_ ?_
                        · intro (c9 : l6 ≤ 1000000000000000)
                          refine And.intro (show (-1000000000000000) ≤ u6 ∧ u6 ≤ 1000000000000000 by omega) ?_
                          refine And.intro (show 0 ≤ l6 ∧ l6 ≤ 1000000000000000 by omega) ?_
                          show Q 53 [(3, (0, 0, 1, 17, m + 1)), (2, (0, 0, 1, 1, 1)), (6, (0, 0, 0, 9, M1 64 (M1 66 m))), (5, (0, 0, 0, 9, M1 64 (M1 67 m))), (4, (0, 0, 0, 9, M1 64 (M1 66 m))), (0, (2, 60, 0, 0, 0)), (1, (0, 0, (-2147483648), 2147483647, a))] [] (xa_up (xa_up (xa_up (xa_up (xa_up M1 60 25 u6) 60 26 l6) 75 (M1 64 (M1 66 m)) u6) 76 (M1 64 (M1 66 m)) l6) 77 (M1 64 (M1 66 m)) 1)
                          refine hgo.2.1 53 _ [(3, (0, 0, 0, 16, m + 1)), (2, (0, 0, 0, 1, 1)), (0, (2, 60, 0, 0, 0)), (1, (0, 0, (-2147483648), 2147483647, a))] _ _ (xa_subI rfl rfl (fun _ _ _ _ => by omega) (xa_subI rfl rfl (fun _ _ _ _ => by omega) (xa_subR rfl (xa_subI rfl rfl (fun _ _ _ _ => by omega) xa_sub0)))) ?_
                          first
                            | (exfalso; omega)
                            | (have hR2 := xm_R_up (M := M1) (t := M1 64 (M1 66 m)) (by omega) (by omega) (by omega)
                               rw [xm_fC_go (a := M1 64 (M1 67 m)) (b := M1 67 m) (c := M1 66 m) (t := M1 64 (M1 66 m)) (by omega) (by omega) (by omega) eg6 (by omega)] at hE
                               have hR3 : xm_R (xa_up (xa_up (xa_up (xa_up (xa_up M1 60 25 u6) 60 26 l6) 75 (M1 64 (M1 66 m)) u6) 76 (M1 64 (M1 66 m)) l6) 77 (M1 64 (M1 66 m)) 1) = xm_R (xa_up M1 77 (M1 64 (M1 66 m)) 1) := xm_R_c (fun j => by simp [xa_up])
                               exact ihC (m + 1) 1 (xa_up (xa_up (xa_up (xa_up (xa_up M1 60 25 u6) 60 26 l6) 75 (M1 64 (M1 66 m)) u6) 76 (M1 64 (M1 66 m)) l6) 77 (M1 64 (M1 66 m)) 1) (by omega) (by omega) (by omega) (by omega) (xw_cor_a rfl (xw_cor_a rfl (xw_cor_a rfl (xw_cor_f (by omega) (xw_cor_f (by omega) hc))))) (by
                                 intro b b0 b1 b2
                                 by_cases e : b = M1 64 (M1 66 m)
                                 · subst e
                                   simp [xa_up]
                                   omega
                                 · simp [xa_up, e] at b2 ⊢
                                   exact hT b b0 b1 b2) (by rw [hR3, hR2]; omega) hE (by omega))
                        · intro (c9 : 1000000000000000 < l6)
                          show xa_wk post (some (0, 0, (-5), (-5), (-5))) (xa_up (xa_up M1 60 25 u6) 60 26 l6)
                          first
                            | (exfalso; omega)
                            | (rw [xm_fC_no (a := M1 64 (M1 67 m)) (b := M1 67 m) (c := M1 66 m) (t := M1 64 (M1 66 m)) (by omega) (by omega) (by omega) eg6 (by omega)] at hE
                               exact xa_wkI (-5) rfl (fun _ _ => by omega) (k (-5) _ (by omega) (xw_cor_f (by omega) (xw_cor_f (by omega) hc)) (fun b b0 b1 b2 => by simp [xa_up] at b2 ⊢; exact hT b b0 b1 b2) (hE _ _ rfl)))
                    · intro (c5 : (M1 64 (M1 66 m)) = (M1 64 (M1 67 m)))
                      refine And.intro (show 0 ≤ m ∧ m < 16 by omega) ?_
                      refine And.intro (show 0 ≤ m ∧ m < 16 by omega) ?_
                      show xa_C xm_I A h0 _ 228 [(2, 60, 0, 0, 0), (0, 0, 0, 9, M1 64 (M1 66 m)), (0, 0, 0, 13, M1 66 m), (0, 0, 0, 13, M1 67 m)] M1 _
                      refine ct_lead (by decide) (by decide) (by decide) (by decide) (by decide) (by decide) (by omega) (by omega) (fun u10 l10 bu10 bl10 eg10 => ?_)
                      show xa_C xm_I A h0 _ 56 [(1, 0, (-400000000000000000), 400000000000000000, u10)] (xa_up (xa_up M1 60 25 u10) 60 26 l10) _
                      refine ct_absb 400000000000000000 (by decide) (by decide) (by decide) (fun a11 ea11 => ?_)
                      refine And.intro ?_ ?_
                      · intro (c12 : 1000000000000000 < a11)
                        show xa_wk post (some (0, 0, (-5), (-5), (-5))) (xa_up (xa_up M1 60 25 u10) 60 26 l10)
                        first
                          | (exfalso; omega)
                          | (rw [xm_fC_no (a := M1 64 (M1 66 m)) (b := M1 66 m) (c := M1 67 m) (t := M1 64 (M1 67 m)) (by omega) (by omega) (by omega) eg10 (by omega)] at hE
                             exact xa_wkI (-5) rfl (fun _ _ => by omega) (k (-5) _ (by omega) (xw_cor_f (by omega) (xw_cor_f (by omega) hc)) (fun b b0 b1 b2 => by simp [xa_up] at b2 ⊢; exact hT b b0 b1 b2) (hE _ _ rfl)))
                      · intro (c12 : a11 ≤ 1000000000000000)
                        refine And.intro ?_ ?_
                        · intro (c13 : l10 ≤ 1000000000000000)
                          refine And.intro (show (-1000000000000000) ≤ u10 ∧ u10 ≤ 1000000000000000 by omega) ?_
                          refine And.intro (show 0 ≤ l10 ∧ l10 ≤ 1000000000000000 by omega) ?_
                          show Q 53 [(3, (0, 0, 1, 17, m + 1)), (2, (0, 0, 1, 1, 1)), (6, (0, 0, 0, 9, M1 64 (M1 66 m))), (5, (0, 0, 0, 9, M1 64 (M1 67 m))), (4, (0, 0, 0, 9, M1 64 (M1 66 m))), (0, (2, 60, 0, 0, 0)), (1, (0, 0, (-2147483648), 2147483647, a))] [] (xa_up (xa_up (xa_up (xa_up (xa_up M1 60 25 u10) 60 26 l10) 75 (M1 64 (M1 66 m)) u10) 76 (M1 64 (M1 66 m)) l10) 77 (M1 64 (M1 66 m)) 1)
                          refine hgo.2.1 53 _ [(3, (0, 0, 0, 16, m + 1)), (2, (0, 0, 0, 1, 1)), (0, (2, 60, 0, 0, 0)), (1, (0, 0, (-2147483648), 2147483647, a))] _ _ (xa_subI rfl rfl (fun _ _ _ _ => by omega) (xa_subI rfl rfl (fun _ _ _ _ => by omega) (xa_subR rfl (xa_subI rfl rfl (fun _ _ _ _ => by omega) xa_sub0)))) ?_
                          first
                            | (exfalso; omega)
                            | (have hR2 := xm_R_up (M := M1) (t := M1 64 (M1 66 m)) (by omega) (by omega) (by omega)
                               rw [xm_fC_go (a := M1 64 (M1 66 m)) (b := M1 66 m) (c := M1 67 m) (t := M1 64 (M1 66 m)) (by omega) (by omega) (by omega) eg10 (by omega)] at hE
                               have hR3 : xm_R (xa_up (xa_up (xa_up (xa_up (xa_up M1 60 25 u10) 60 26 l10) 75 (M1 64 (M1 66 m)) u10) 76 (M1 64 (M1 66 m)) l10) 77 (M1 64 (M1 66 m)) 1) = xm_R (xa_up M1 77 (M1 64 (M1 66 m)) 1) := xm_R_c (fun j => by simp [xa_up])
                               exact ihC (m + 1) 1 (xa_up (xa_up (xa_up (xa_up (xa_up M1 60 25 u10) 60 26 l10) 75 (M1 64 (M1 66 m)) u10) 76 (M1 64 (M1 66 m)) l10) 77 (M1 64 (M1 66 m)) 1) (by omega) (by omega) (by omega) (by omega) (xw_cor_a rfl (xw_cor_a rfl (xw_cor_a rfl (xw_cor_f (by omega) (xw_cor_f (by omega) hc))))) (by
                                 intro b b0 b1 b2
                                 by_cases e : b = M1 64 (M1 66 m)
                                 · subst e
                                   simp [xa_up]
                                   omega
                                 · simp [xa_up, e] at b2 ⊢
                                   exact hT b b0 b1 b2) (by rw [hR3, hR2]; omega) hE (by omega))
                        · intro (c13 : 1000000000000000 < l10)
                          show xa_wk post (some (0, 0, (-5), (-5), (-5))) (xa_up (xa_up M1 60 25 u10) 60 26 l10)
                          first
                            | (exfalso; omega)
                            | (rw [xm_fC_no (a := M1 64 (M1 66 m)) (b := M1 66 m) (c := M1 67 m) (t := M1 64 (M1 67 m)) (by omega) (by omega) (by omega) eg10 (by omega)] at hE
                               exact xa_wkI (-5) rfl (fun _ _ => by omega) (k (-5) _ (by omega) (xw_cor_f (by omega) (xw_cor_f (by omega) hc)) (fun b b0 b1 b2 => by simp [xa_up] at b2 ⊢; exact hT b b0 b1 b2) (hE _ _ rfl)))
                  · intro (c4 : ¬ (M1 77 (M1 64 (M1 66 m))) = 0)
                    refine And.intro ?_ ?_
                    · intro (c14 : ¬ (M1 64 (M1 67 m)) = (M1 64 (M1 67 m)))
                      refine And.intro (show 0 ≤ m ∧ m < 16 by omega) ?_
                      refine And.intro (show 0 ≤ m ∧ m < 16 by omega) ?_
                      show xa_C xm_I A h0 _ 228 [(2, 60, 0, 0, 0), (0, 0, 0, 9, M1 64 (M1 67 m)), (0, 0, 0, 13, M1 67 m), (0, 0, 0, 13, M1 66 m)] M1 _
                      refine ct_lead (by decide) (by decide) (by decide) (by decide) (by decide) (by decide) (by omega) (by omega) (fun u15 l15 bu15 bl15 eg15 => ?_)
                      show xa_C xm_I A h0 _ 56 [(1, 0, (-400000000000000000), 400000000000000000, u15)] (xa_up (xa_up M1 60 25 u15) 60 26 l15) _
                      refine ct_absb 400000000000000000 (by decide) (by decide) (by decide) (fun a16 ea16 => ?_)
                      refine And.intro ?_ ?_
                      · intro (c17 : 1000000000000000 < a16)
                        show xa_wk post (some (0, 0, (-5), (-5), (-5))) (xa_up (xa_up M1 60 25 u15) 60 26 l15)
                        first
                          | (exfalso; omega)
                          | (rw [xm_fC_no (a := M1 64 (M1 67 m)) (b := M1 67 m) (c := M1 66 m) (t := M1 64 (M1 66 m)) (by omega) (by omega) (by omega) eg15 (by omega)] at hE
                             exact xa_wkI (-5) rfl (fun _ _ => by omega) (k (-5) _ (by omega) (xw_cor_f (by omega) (xw_cor_f (by omega) hc)) (fun b b0 b1 b2 => by simp [xa_up] at b2 ⊢; exact hT b b0 b1 b2) (hE _ _ rfl)))
                      · intro (c17 : a16 ≤ 1000000000000000)
                        refine And.intro ?_ ?_
                        · intro (c18 : l15 ≤ 1000000000000000)
                          refine And.intro (show (-1000000000000000) ≤ u15 ∧ u15 ≤ 1000000000000000 by omega) ?_
                          refine And.intro (show 0 ≤ l15 ∧ l15 ≤ 1000000000000000 by omega) ?_
                          show Q 53 [(3, (0, 0, 1, 17, m + 1)), (2, (0, 0, 1, 1, 1)), (6, (0, 0, 0, 9, M1 64 (M1 67 m))), (5, (0, 0, 0, 9, M1 64 (M1 67 m))), (4, (0, 0, 0, 9, M1 64 (M1 66 m))), (0, (2, 60, 0, 0, 0)), (1, (0, 0, (-2147483648), 2147483647, a))] [] (xa_up (xa_up (xa_up (xa_up (xa_up M1 60 25 u15) 60 26 l15) 75 (M1 64 (M1 67 m)) u15) 76 (M1 64 (M1 67 m)) l15) 77 (M1 64 (M1 67 m)) 1)
                          refine hgo.2.1 53 _ [(3, (0, 0, 0, 16, m + 1)), (2, (0, 0, 0, 1, 1)), (0, (2, 60, 0, 0, 0)), (1, (0, 0, (-2147483648), 2147483647, a))] _ _ (xa_subI rfl rfl (fun _ _ _ _ => by omega) (xa_subI rfl rfl (fun _ _ _ _ => by omega) (xa_subR rfl (xa_subI rfl rfl (fun _ _ _ _ => by omega) xa_sub0)))) ?_
                          first
                            | (exfalso; omega)
                            | (have hR2 := xm_R_up (M := M1) (t := M1 64 (M1 67 m)) (by omega) (by omega) (by omega)
                               rw [xm_fC_go (a := M1 64 (M1 67 m)) (b := M1 67 m) (c := M1 66 m) (t := M1 64 (M1 67 m)) (by omega) (by omega) (by omega) eg15 (by omega)] at hE
                               have hR3 : xm_R (xa_up (xa_up (xa_up (xa_up (xa_up M1 60 25 u15) 60 26 l15) 75 (M1 64 (M1 67 m)) u15) 76 (M1 64 (M1 67 m)) l15) 77 (M1 64 (M1 67 m)) 1) = xm_R (xa_up M1 77 (M1 64 (M1 67 m)) 1) := xm_R_c (fun j => by simp [xa_up])
                               exact ihC (m + 1) 1 (xa_up (xa_up (xa_up (xa_up (xa_up M1 60 25 u15) 60 26 l15) 75 (M1 64 (M1 67 m)) u15) 76 (M1 64 (M1 67 m)) l15) 77 (M1 64 (M1 67 m)) 1) (by omega) (by omega) (by omega) (by omega) (xw_cor_a rfl (xw_cor_a rfl (xw_cor_a rfl (xw_cor_f (by omega) (xw_cor_f (by omega) hc))))) (by
                                 intro b b0 b1 b2
                                 by_cases e : b = M1 64 (M1 67 m)
                                 · subst e
                                   simp [xa_up]
                                   omega
                                 · simp [xa_up, e] at b2 ⊢
                                   exact hT b b0 b1 b2) (by rw [hR3, hR2]; omega) hE (by omega))
                        · intro (c18 : 1000000000000000 < l15)
                          show xa_wk post (some (0, 0, (-5), (-5), (-5))) (xa_up (xa_up M1 60 25 u15) 60 26 l15)
                          first
                            | (exfalso; omega)
                            | (rw [xm_fC_no (a := M1 64 (M1 67 m)) (b := M1 67 m) (c := M1 66 m) (t := M1 64 (M1 66 m)) (by omega) (by omega) (by omega) eg15 (by omega)] at hE
                               exact xa_wkI (-5) rfl (fun _ _ => by omega) (k (-5) _ (by omega) (xw_cor_f (by omega) (xw_cor_f (by omega) hc)) (fun b b0 b1 b2 => by simp [xa_up] at b2 ⊢; exact hT b b0 b1 b2) (hE _ _ rfl)))
                    · intro (c14 : (M1 64 (M1 67 m)) = (M1 64 (M1 67 m)))
                      refine And.intro (show 0 ≤ m ∧ m < 16 by omega) ?_
                      refine And.intro (show 0 ≤ m ∧ m < 16 by omega) ?_
                      show xa_C xm_I A h0 _ 228 [(2, 60, 0, 0, 0), (0, 0, 0, 9, M1 64 (M1 66 m)), (0, 0, 0, 13, M1 66 m), (0, 0, 0, 13, M1 67 m)] M1 _
                      refine ct_lead (by decide) (by decide) (by decide) (by decide) (by decide) (by decide) (by omega) (by omega) (fun u19 l19 bu19 bl19 eg19 => ?_)
                      show xa_C xm_I A h0 _ 56 [(1, 0, (-400000000000000000), 400000000000000000, u19)] (xa_up (xa_up M1 60 25 u19) 60 26 l19) _
                      refine ct_absb 400000000000000000 (by decide) (by decide) (by decide) (fun a20 ea20 => ?_)
                      refine And.intro ?_ ?_
                      · intro (c21 : 1000000000000000 < a20)
                        show xa_wk post (some (0, 0, (-5), (-5), (-5))) (xa_up (xa_up M1 60 25 u19) 60 26 l19)
                        first
                          | (exfalso; omega)
                          | (rw [xm_fC_no (a := M1 64 (M1 66 m)) (b := M1 66 m) (c := M1 67 m) (t := M1 64 (M1 67 m)) (by omega) (by omega) (by omega) eg19 (by omega)] at hE
                             exact xa_wkI (-5) rfl (fun _ _ => by omega) (k (-5) _ (by omega) (xw_cor_f (by omega) (xw_cor_f (by omega) hc)) (fun b b0 b1 b2 => by simp [xa_up] at b2 ⊢; exact hT b b0 b1 b2) (hE _ _ rfl)))
                      · intro (c21 : a20 ≤ 1000000000000000)
                        refine And.intro ?_ ?_
                        · intro (c22 : l19 ≤ 1000000000000000)
                          refine And.intro (show (-1000000000000000) ≤ u19 ∧ u19 ≤ 1000000000000000 by omega) ?_
                          refine And.intro (show 0 ≤ l19 ∧ l19 ≤ 1000000000000000 by omega) ?_
                          show Q 53 [(3, (0, 0, 1, 17, m + 1)), (2, (0, 0, 1, 1, 1)), (6, (0, 0, 0, 9, M1 64 (M1 67 m))), (5, (0, 0, 0, 9, M1 64 (M1 67 m))), (4, (0, 0, 0, 9, M1 64 (M1 66 m))), (0, (2, 60, 0, 0, 0)), (1, (0, 0, (-2147483648), 2147483647, a))] [] (xa_up (xa_up (xa_up (xa_up (xa_up M1 60 25 u19) 60 26 l19) 75 (M1 64 (M1 67 m)) u19) 76 (M1 64 (M1 67 m)) l19) 77 (M1 64 (M1 67 m)) 1)
                          refine hgo.2.1 53 _ [(3, (0, 0, 0, 16, m + 1)), (2, (0, 0, 0, 1, 1)), (0, (2, 60, 0, 0, 0)), (1, (0, 0, (-2147483648), 2147483647, a))] _ _ (xa_subI rfl rfl (fun _ _ _ _ => by omega) (xa_subI rfl rfl (fun _ _ _ _ => by omega) (xa_subR rfl (xa_subI rfl rfl (fun _ _ _ _ => by omega) xa_sub0)))) ?_
                          first
                            | (exfalso; omega)
                            | (have hR2 := xm_R_up (M := M1) (t := M1 64 (M1 67 m)) (by omega) (by omega) (by omega)
                               rw [xm_fC_go (a := M1 64 (M1 66 m)) (b := M1 66 m) (c := M1 67 m) (t := M1 64 (M1 67 m)) (by omega) (by omega) (by omega) eg19 (by omega)] at hE
                               have hR3 : xm_R (xa_up (xa_up (xa_up (xa_up (xa_up M1 60 25 u19) 60 26 l19) 75 (M1 64 (M1 67 m)) u19) 76 (M1 64 (M1 67 m)) l19) 77 (M1 64 (M1 67 m)) 1) = xm_R (xa_up M1 77 (M1 64 (M1 67 m)) 1) := xm_R_c (fun j => by simp [xa_up])
                               exact ihC (m + 1) 1 (xa_up (xa_up (xa_up (xa_up (xa_up M1 60 25 u19) 60 26 l19) 75 (M1 64 (M1 67 m)) u19) 76 (M1 64 (M1 67 m)) l19) 77 (M1 64 (M1 67 m)) 1) (by omega) (by omega) (by omega) (by omega) (xw_cor_a rfl (xw_cor_a rfl (xw_cor_a rfl (xw_cor_f (by omega) (xw_cor_f (by omega) hc))))) (by
                                 intro b b0 b1 b2
                                 by_cases e : b = M1 64 (M1 67 m)
                                 · subst e
                                   simp [xa_up]
                                   omega
                                 · simp [xa_up, e] at b2 ⊢
                                   exact hT b b0 b1 b2) (by rw [hR3, hR2]; omega) hE (by omega))
                        · intro (c22 : 1000000000000000 < l19)
                          show xa_wk post (some (0, 0, (-5), (-5), (-5))) (xa_up (xa_up M1 60 25 u19) 60 26 l19)
                          first
                            | (exfalso; omega)
                            | (rw [xm_fC_no (a := M1 64 (M1 66 m)) (b := M1 66 m) (c := M1 67 m) (t := M1 64 (M1 67 m)) (by omega) (by omega) (by omega) eg19 (by omega)] at hE
                               exact xa_wkI (-5) rfl (fun _ _ => by omega) (k (-5) _ (by omega) (xw_cor_f (by omega) (xw_cor_f (by omega) hc)) (fun b b0 b1 b2 => by simp [xa_up] at b2 ⊢; exact hT b b0 b1 b2) (hE _ _ rfl)))
                · intro (c3 : (M1 77 (M1 64 (M1 66 m))) = (M1 77 (M1 64 (M1 67 m))))
                  show Q 53 [(3, (0, 0, 1, 17, m + 1)), (5, (0, 0, 0, 9, M1 64 (M1 67 m))), (4, (0, 0, 0, 9, M1 64 (M1 66 m))), (2, (0, 0, 0, 1, z)), (0, (2, 60, 0, 0, 0)), (1, (0, 0, (-2147483648), 2147483647, a))] [] M1
                  refine hgo.2.1 53 _ [(3, (0, 0, 0, 16, m + 1)), (2, (0, 0, 0, 1, z)), (0, (2, 60, 0, 0, 0)), (1, (0, 0, (-2147483648), 2147483647, a))] _ _ (xa_subI rfl rfl (fun _ _ _ _ => by omega) (xa_subI rfl rfl (fun _ _ _ _ => by omega) (xa_subR rfl (xa_subI rfl rfl (fun _ _ _ _ => by omega) xa_sub0)))) ?_
                  rw [xm_fC_skip (by omega) (by omega)] at hE
                  exact ihC (m + 1) z M1 (by omega) (by omega) z0 z1 hc hT hR hE (by omega)
        show Q 53 [(3, (0, 0, 0, 0, 0)), (2, (0, 0, 0, 0, 0)), (0, (2, 60, 0, 0, 0)), (1, (0, 0, (-2147483648), 2147483647, a))] [] M0
        refine hgo.2.1 53 _ [(3, (0, 0, 0, 16, 0)), (2, (0, 0, 0, 1, 0)), (0, (2, 60, 0, 0, 0)), (1, (0, 0, (-2147483648), 2147483647, a))] _ _ (xa_subI rfl rfl (fun _ _ _ _ => by omega) (xa_subI rfl rfl (fun _ _ _ _ => by omega) (xa_subR rfl (xa_subI rfl rfl (fun _ _ _ _ => by omega) xa_sub0)))) ?_
        rw [xm_fB, if_neg (by omega)] at hE0
        exact loopC 17 0 0 M0 (by omega) (by omega) (by omega) (by omega) hc0 hT0 (by omega) hE0 (by omega)
  have loopA : ∀ (n : Nat) (b : Int) (M1 : xa_M), 0 ≤ b → b ≤ 10 → xw_cor M M1 → (∀ e, 0 ≤ e → e < b → M1 77 e = 1 → e = 0) → xm_i77 n b M1 = xm_i77 11 0 M → 10 - b < (n : Int) → Q 2 [(2, (0, 0, 0, 10, b)), (0, (2, 60, 0, 0, 0)), (1, (0, 0, (-2147483648), 2147483647, a))] [] M1 := by
    intro n
    induction n with
    | zero => intro b M1 h1 h2 hc hz hE hms; omega
    | succ n ih =>
      intro b M1 h1 h2 hc hz hE hms
      refine hgo.2.2 _ _ _ _ (fun hM1 _ => ?_)
      refine hgo.1 20 [2, 45, 53, 251] 2 _ _ _ ?_
      refine And.intro ?_ ?_
      · intro (c1 : 10 ≤ b)
        show Q 45 [(2, (0, 0, 1, 1, 1)), (0, (2, 60, 0, 0, 0)), (1, (0, 0, (-2147483648), 2147483647, a))] [] (xa_up (xa_up M1 75 0 1) 76 0 1)
        refine hgo.2.1 45 _ [(2, (0, 0, 0, 1, 1)), (0, (2, 60, 0, 0, 0)), (1, (0, 0, (-2147483648), 2147483647, a))] _ _ (xa_subI rfl rfl (fun _ _ _ _ => by omega) (xa_subR rfl (xa_subI rfl rfl (fun _ _ _ _ => by omega) xa_sub0))) ?_
        rw [xm_i77, if_neg (by omega)] at hE
        refine loopB 23 1 (xa_up (xa_up M1 75 0 1) 76 0 1) (by omega) (by omega) (xw_cor_a rfl (xw_cor_a rfl hc)) ?_ (fun v M9 h => by unfold xm_FT xm_ini; rw [← hE]; exact h) ?_
        · intro e e0 e1 e2
          by_cases ee : e = 0
          · subst ee
            simp [xa_up]
          · simp [xa_up, ee] at e2 ⊢
            exact absurd (hz e e0 (by omega) e2) ee
        · have := xm_R_le hM1
          have e9 : xm_R (xa_up (xa_up M1 75 0 1) 76 0 1) = xm_R M1 := xm_R_c (fun j => by simp [xa_up])
          rw [e9]
          omega
      · intro (c1 : b < 10)
        refine And.intro ?_ ?_
        · intro (c2 : ¬ b = 0)
          refine And.intro (show 0 ≤ b ∧ b < 10 by omega) ?_
          show Q 2 [(2, (0, 0, 1, 11, b + 1)), (0, (2, 60, 0, 0, 0)), (1, (0, 0, (-2147483648), 2147483647, a))] [] (xa_up M1 77 b 0)
          refine hgo.2.1 2 _ [(2, (0, 0, 0, 10, b + 1)), (0, (2, 60, 0, 0, 0)), (1, (0, 0, (-2147483648), 2147483647, a))] _ _ (xa_subI rfl rfl (fun _ _ _ _ => by omega) (xa_subR rfl (xa_subI rfl rfl (fun _ _ _ _ => by omega) xa_sub0))) ?_
          exact ih (b + 1) (xa_up M1 77 b 0) (by omega) (by omega) (xw_cor_a rfl hc) (fun e e0 e1 e2 => by
            by_cases ee : e = b
            · subst ee
              simp [xa_up] at e2
              try omega
            · simp [xa_up, ee] at e2
              exact hz e e0 (by omega) e2) (by rw [xm_i77, if_pos (by omega), if_neg (by omega)] at hE; exact hE) (by omega)
        · intro (c2 : b = 0)
          refine And.intro (show 0 ≤ b ∧ b < 10 by omega) ?_
          show Q 2 [(2, (0, 0, 1, 11, b + 1)), (0, (2, 60, 0, 0, 0)), (1, (0, 0, (-2147483648), 2147483647, a))] [] (xa_up M1 77 b 1)
          refine hgo.2.1 2 _ [(2, (0, 0, 0, 10, b + 1)), (0, (2, 60, 0, 0, 0)), (1, (0, 0, (-2147483648), 2147483647, a))] _ _ (xa_subI rfl rfl (fun _ _ _ _ => by omega) (xa_subR rfl (xa_subI rfl rfl (fun _ _ _ _ => by omega) xa_sub0))) ?_
          exact ih (b + 1) (xa_up M1 77 b 1) (by omega) (by omega) (xw_cor_a rfl hc) (fun e e0 e1 e2 => by
            by_cases ee : e = b
            · subst ee
              simp [xa_up] at e2
              try omega
            · simp [xa_up, ee] at e2
              exact hz e e0 (by omega) e2) (by rw [xm_i77, if_pos (by omega), if_pos (by omega)] at hE; exact hE) (by omega)
  refine hgo.1 7 [2, 45, 53, 251] 0 _ _ _ ?_
  show Q 2 [(2, (0, 0, 0, 0, 0)), (0, (2, 60, 0, 0, 0)), (1, (0, 0, (-2147483648), 2147483647, a))] [] M
  refine hgo.2.1 2 _ [(2, (0, 0, 0, 10, 0)), (0, (2, 60, 0, 0, 0)), (1, (0, 0, (-2147483648), 2147483647, a))] _ _ (xa_subI rfl rfl (fun _ _ _ _ => by omega) (xa_subR rfl (xa_subI rfl rfl (fun _ _ _ _ => by omega) xa_sub0))) ?_
  exact loopA 11 0 M (by omega) (by omega) xw_cor_r (fun e e0 e1 => by omega) rfl (by omega)
theorem xw_ct_isF {A : Nat → Nat} {h0 : g_H} {d : Nat} {M : xa_M} {post : Option xa_V → xa_M → Prop} {l u p y : Int} (h242 : xm_fd) (hI : xm_Inv M) (hW : xm_W M y) (hp0 : 0 ≤ p) (hp1 : p < M 60 11) (k : ∀ (r : Int) (M1 : xa_M), (r = 0 ∨ r = 1) → xw_cor M M1 → M1 60 20 = M 60 20 → xm_W M1 y → xm_rk M1 (M1 60 32).toNat = xm_rk M (M 60 32).toNat → post (some (0, 0, 0, 1, r)) M1) : xa_C xm_I A h0 (d + 3) 242 [(2, 60, 0, 0, 0), (0, 0, l, u, p)] M post :=
  h242 hI hW.1 hW.2.1 hp0 hp1 (fun r M1 hr h => by
    have h86 : xm_86 M M1 := fun q j hq => h q j hq.1 hq.2.1
    refine k r M1 hr (fun q j hs => h q j (fun e => hs (by subst e; exact Or.inl (by decide))) (fun e => hs (by subst e; exact Or.inl (by decide)))) (h 60 20 (by decide) (by decide)) (xm_86_W h86 hW).1 (xm_86_W h86 hW).2)
theorem xw_ct_nextW {A : Nat → Nat} {h0 : g_H} {d : Nat} {M : xa_M} {post : Option xa_V → xa_M → Prop} {y : Int} (hW : xm_W M y) (k : ∀ (r : Int) (M1 : xa_M), (r = 0 ∨ r = 1) → xw_cor M M1 → M1 60 20 = M 60 20 → (∀ z, z ≤ y + 1 → r = 1 → xm_W M1 z) → (r = 1 → xm_rk M1 (M1 60 32).toNat < xm_rk M (M 60 32).toNat) → post (some (0, 0, 0, 1, r)) M1) : xa_C xm_I A h0 (d + 1) 243 [(2, 60, 0, 0, 0)] M post :=
  ct_nextWay hW.2.1 (fun r M1 hr h84 hF hR => by
    have e32 := h84 60 32 (by decide)
    have e0 := h84 60 0 (by decide)
    refine k r M1 hr (xw_84_c h84) (h84 60 20 (by decide)) (fun z hz h1 => ⟨fun i i0 i1 => ?_, hF, ?_, ?_⟩) (fun h1 => ?_)
    · rw [e32] at i1
      rw [e0, h84 80 i (by decide)]
      exact hW.1 i i0 i1
    · rw [e32, xm_pr_84 h84]
      exact hW.2.2.1
    · have := hR h1
      have := hW.2.2.2
      rw [e32]
      omega
    · rw [e32]
      exact hR h1)
theorem xw_ct_firstW {A : Nat → Nat} {h0 : g_H} {d : Nat} {M : xa_M} {post : Option xa_V → xa_M → Prop} (hI : xm_Inv M) (hY : xm_Y M) (k : ∀ (M1 : xa_M), xw_cor M M1 → M1 60 20 = M 60 20 → xm_W M1 0 → post none M1) : xa_C xm_I A h0 (d + 1) 241 [(2, 60, 0, 0, 0)] M post :=
  xa_C_asm (fun hM _ => ct_firstWay (fun M1 h84 ht => by
    have hw := hY.1
    have hp := hY.2
    have e32 := h84 60 32 (by decide)
    have e0 := h84 60 0 (by decide)
    have b32 := xm_f32 hM
    have hF : xm_fit M1 := fun i i0 i1 => by
      rw [e32] at i1
      rw [h84 80 i (by decide), h84 61 _ (by decide), h84 62 _ (by decide), ht i i0 i1]
      have := xm_way_sp hM hI hw i i0 i1
      omega
    have hb := xm_rkb hF (M1 60 32).toNat (by omega)
    have hp1 : xm_pr M1 (M1 60 32).toNat ≤ 200000 := by
      rw [e32, xm_pr_84 h84]
      exact hp
    refine k M1 (xw_84_c h84) (h84 60 20 (by decide)) ⟨fun i i0 i1 => ?_, hF, hp1, by omega⟩
    rw [e32] at i1
    rw [e0, h84 80 i (by decide)]
    exact hw i i0 i1))
theorem xw_ms_may {A : Nat → Nat} {h0 : g_H} {d : Nat} {M : xa_M} {post : Option xa_V → xa_M → Prop} {l1 u1 : Int} {a : Int} (h242 : xm_fd) (hI : xm_Inv M) (k : ∀ (o : Option xa_V) (M1 : xa_M), xw_cor M M1 → post o M1) : xa_C xm_I A h0 (d + 4) 247 [(2, 60, 0, 0, 0), (0, 0, l1, u1, a)] M post := by
  refine xa_C_arg [(2, 60, 0, 0, 0), (0, 0, (-2147483648), 2147483647, a)] (xa_svR (xa_svI (fun _ _ _ _ => by omega) xa_sv0)) ?_
  refine xa_meth (Q0 := (4, 1, false, 0, 0, 12)) (by decide +kernel) ⟨rfl, rfl⟩ (full := s_c_247) rfl rfl ?_
  intro hM hv Q hgo
  have loop0 : ∀ (n : Nat) (x2 : Int) (M1 : xa_M), xw_cor M M1 → xm_W M1 0 → xm_rk M1 (M1 60 32).toNat < (n : Int) → Q 44 [(2, (0, 0, (-2147483648), 2147483647, x2)), (0, (2, 60, 0, 0, 0))] [] M1 := by
    intro n
    induction n with
    | zero => intro x2 M1 hc hW hms; exact absurd hms (by have := xm_W_rk hW; omega)
    | succ n ih0 =>
      intro x2 M1 hc hW hms0
      refine hgo.2.2 _ _ _ _ (fun hM1 _ => ?_)
      have e11 := xw_corf hc 11 (by omega)
      have b11 := xm_f11 hM1
      have b32 := xm_f32 hM1
      have hrk := (xm_rkb hW.2.1 (M1 60 32).toNat (by omega)).1
      have hWs := hW.2.2.2
      obtain ⟨e, he⟩ : ∃ e, e = xm_rk M1 (M1 60 32).toNat := ⟨_, rfl⟩
      have loop1 : ∀ (n : Nat) (x3 x2 : Int) (M1 : xa_M), 0 ≤ x3 ∧ x3 ≤ 8 → xw_cor M M1 → xm_W M1 0 → xm_rk M1 (M1 60 32).toNat = e → 8 - x3 < (n : Int) → Q 46 [(3, (0, 0, 0, 8, x3)), (2, (0, 0, (-2147483648), 2147483647, x2)), (0, (2, 60, 0, 0, 0))] [] M1 := by
        intro n
        induction n with
        | zero => intro x3 x2 M1 b3 hc hW hrke hms; omega
        | succ n ih1 =>
          intro x3 x2 M1 b3 hc hW hrke hms1
          refine hgo.2.2 _ _ _ _ (fun hM1 _ => ?_)
          have e11 := xw_corf hc 11 (by omega)
          have b11 := xm_f11 hM1
          have b32 := xm_f32 hM1
          have hrk := (xm_rkb hW.2.1 (M1 60 32).toNat (by omega)).1
          have hWs := hW.2.2.2
          refine hgo.1 25 [44, 46] 46 _ _ _ ?_
          refine And.intro ?_ ?_
          · intro (c1 : (M1 60 11) ≤ x3)
            show xa_C xm_I A h0 _ 243 [(2, 60, 0, 0, 0)] M1 _
            refine xa_C_mok (xw_ct_nextW hW (fun v2 M2 z2 hc2 e2 wN2 rk2 hM2 => ?_))
            refine And.intro ?_ ?_
            · intro (c3 : ¬ v2 = 0)
              show Q 44 [(3, (0, 0, 0, 8, x3)), (2, (0, 0, (-2147483648), 2147483647, x2)), (0, (2, 60, 0, 0, 0))] [] M2
              refine hgo.2.1 44 _ [(2, (0, 0, (-2147483648), 2147483647, x2)), (0, (2, 60, 0, 0, 0))] _ _ (xa_subI rfl rfl (fun _ _ _ _ => by omega) (xa_subR rfl xa_sub0)) ?_
              exact ih0 x2 M2 (xw_cor_t hc hc2) (wN2 _ (by omega) (by omega)) (by omega)
            · intro (c3 : v2 = 0)
              show post (some (0, 0, (-2147483648), 2147483647, x2)) M2
              exact k _ _ (xw_cor_t hc hc2)
          · intro (c1 : x3 < (M1 60 11))
            show xa_C xm_I A h0 _ 248 [(0, 0, (-2147483648), 2147483647, x2), (0, 0, 0, 8, x3)] M1 _
            refine ct_has (fun r4 zr4 er4 => ?_)
            refine And.intro ?_ ?_
            · intro (c5 : ¬ r4 = 0)
              show Q 46 [(3, (0, 0, 1, 9, x3 + 1)), (2, (0, 0, (-2147483648), 2147483647, x2)), (0, (2, 60, 0, 0, 0))] [] M1
              refine hgo.2.1 46 _ [(3, (0, 0, 0, 8, x3 + 1)), (2, (0, 0, (-2147483648), 2147483647, x2)), (0, (2, 60, 0, 0, 0))] _ _ (xa_subI rfl rfl (fun _ _ _ _ => by omega) (xa_subI rfl rfl (fun _ _ _ _ => by omega) (xa_subR rfl xa_sub0))) ?_
              exact ih1 (x3 + 1) x2 M1 (by omega) hc hW (by omega) (by omega)
            · intro (c5 : r4 = 0)
              show xa_C xm_I A h0 _ 242 [(2, 60, 0, 0, 0), (0, 0, 0, 8, x3)] M1 _
              refine xa_C_mok (xw_ct_isF h242 (xw_Inv_cor hc hI) hW (by omega) (by omega) (fun v6 M6 z6 hc6 e6 wF6 rk6 hM6 => ?_))
              refine And.intro ?_ ?_
              · intro (c7 : v6 = 0)
                show Q 46 [(3, (0, 0, 1, 9, x3 + 1)), (2, (0, 0, (-2147483648), 2147483647, x2)), (0, (2, 60, 0, 0, 0))] [] M6
                refine hgo.2.1 46 _ [(3, (0, 0, 0, 8, x3 + 1)), (2, (0, 0, (-2147483648), 2147483647, x2)), (0, (2, 60, 0, 0, 0))] _ _ (xa_subI rfl rfl (fun _ _ _ _ => by omega) (xa_subI rfl rfl (fun _ _ _ _ => by omega) (xa_subR rfl xa_sub0))) ?_
                exact ih1 (x3 + 1) x2 M6 (by omega) (xw_cor_t hc hc6) wF6 (rk6.trans hrke) (by omega)
              · intro (c7 : ¬ v6 = 0)
                show Q 46 [(3, (0, 0, 1, 9, x3 + 1)), (2, (0, 0, (-2147483648), 2147483647, xa_ib 4 x2 (xa_ib 6 1 x3))), (0, (2, 60, 0, 0, 0))] [] M6
                refine hgo.2.1 46 _ [(3, (0, 0, 0, 8, x3 + 1)), (2, (0, 0, (-2147483648), 2147483647, xa_ib 4 x2 (xa_ib 6 1 x3))), (0, (2, 60, 0, 0, 0))] _ _ (xa_subI rfl rfl (fun _ _ _ _ => by omega) (xa_subI rfl rfl (fun _ _ _ _ => by omega) (xa_subR rfl xa_sub0))) ?_
                exact ih1 (x3 + 1) (xa_ib 4 x2 (xa_ib 6 1 x3)) M6 (by omega) (xw_cor_t hc hc6) wF6 (rk6.trans hrke) (by omega)
      refine hgo.1 7 [44, 46] 44 _ _ _ ?_
      show Q 46 [(3, (0, 0, 0, 0, 0)), (2, (0, 0, (-2147483648), 2147483647, x2)), (0, (2, 60, 0, 0, 0))] [] M1
      refine hgo.2.1 46 _ [(3, (0, 0, 0, 8, 0)), (2, (0, 0, (-2147483648), 2147483647, x2)), (0, (2, 60, 0, 0, 0))] _ _ (xa_subI rfl rfl (fun _ _ _ _ => by omega) (xa_subI rfl rfl (fun _ _ _ _ => by omega) (xa_subR rfl xa_sub0))) ?_
      exact loop1 9 0 x2 M1 (by omega) hc hW (by omega) (by omega)
  refine hgo.1 24 [44, 46] 0 _ _ _ ?_
  show xa_C xm_I A h0 _ 214 [(0, 0, (-2147483648), 2147483647, a), (0, 0, 1, 1, 1), (0, 0, 9, 9, 9)] (xa_up M 60 21 0) _
  refine ct_in ?_ ?_
  · intro (i1 : 1 ≤ a ∧ a ≤ 9)
    show xa_C xm_I A h0 _ 236 [(2, 60, 0, 0, 0), (0, 0, (-2147483648), 2147483647, a)] (xa_up M 60 21 0) _
    refine rw_fx (j := 236) (by decide) (xa_C_mok (ct_findWay (xw_Inv_cor (xw_cor_f (by omega) xw_cor_r) hI) (by omega) (by omega) (fun v2 M2 hv2 hc2 hw2 hM2 => ?_)))
    intro r9hc2
    replace hc2 := xw_of hc2 r9hc2
    refine And.intro ?_ ?_
    · intro (c3 : ¬ v2 = 0)
      show xa_C xm_I A h0 _ 240 [(2, 60, 0, 0, 0)] M2 _
      refine ct_areTooMany (xw_Inv_cor (xw_cor_t (xw_cor_f (by omega) xw_cor_r) hc2) hI) (hw2 (by omega)) (fun r4 zr4 yr4 => ?_)
      refine And.intro ?_ ?_
      · intro (c5 : r4 = 0)
        show xa_C xm_I A h0 _ 241 [(2, 60, 0, 0, 0)] M2 _
        refine xa_C_mok (xw_ct_firstW (xw_Inv_cor (xw_cor_t (xw_cor_f (by omega) xw_cor_r) hc2) hI) ⟨hw2 (by omega), yr4 (by omega)⟩ (fun M6 hc6 e6 wA6 hM6 => ?_))
        have w2 := wA6.2.2.2
        show Q 44 [(2, (0, 0, 0, 0, 0)), (0, (2, 60, 0, 0, 0)), (1, (0, 0, (-2147483648), 2147483647, a))] [] M6
        refine hgo.2.1 44 _ [(2, (0, 0, (-2147483648), 2147483647, 0)), (0, (2, 60, 0, 0, 0))] _ _ (xa_subI rfl rfl (fun _ _ _ _ => by omega) (xa_subR rfl xa_sub0)) ?_
        exact loop0 200000 0 M6 (xw_cor_t (xw_cor_t (xw_cor_f (by omega) xw_cor_r) hc2) hc6) wA6 (by omega)
      · intro (c5 : ¬ r4 = 0)
        show post (some (0, 0, (-4), (-4), (-4))) M2
        exact k _ _ (xw_cor_t (xw_cor_f (by omega) xw_cor_r) hc2)
    · intro (c3 : v2 = 0)
      show post (some (0, 0, (-2), (-2), (-2))) M2
      exact k _ _ (xw_cor_t (xw_cor_f (by omega) xw_cor_r) hc2)
  · intro (i1 : ¬ (1 ≤ a ∧ a ≤ 9))
    show post (some (0, 0, (-1), (-1), (-1))) (xa_up M 60 21 0)
    exact k _ _ (xw_cor_f (by omega) xw_cor_r)
theorem xw_fr_isF {A : Nat → Nat} {h0 : g_H} {d : Nat} {M M1 : xa_M} {post : Option xa_V → xa_M → Prop} {l u p y : Int} (hK : fr_K M M1) (hI : xm_Inv M1) (hW : xm_W M1 y) (hp0 : 0 ≤ p) (hp1 : p < M1 60 11) (k : ∀ (r : Int) (M2 : xa_M), (r = 0 ∨ r = 1) → (r = 1 ↔ fr_F M p (fr_r M M1)) → xw_cor M1 M2 → M2 60 20 = M1 60 20 → xm_W M2 y → xm_rk M2 (M2 60 32).toNat = xm_rk M1 (M1 60 32).toNat → fr_K M M2 → fr_r M M2 = fr_r M M1 → post (some (0, 0, 0, 1, r)) M2) : xa_C xm_I A h0 (d + 3) 242 [(2, 60, 0, 0, 0), (0, 0, l, u, p)] M1 post :=
  ct_isFitF hI hW.1 hW.2.1 hp0 hp1 (fun r M2 hr he h => by
    have h86 : xm_86 M1 M2 := fun q j hq => h q j hq.1 hq.2.1
    refine k r M2 hr (he.trans (fr_fit hK hW.2.1)) (fun q j hs => h q j (fun e => hs (by subst e; exact Or.inl (by decide))) (fun e => hs (by subst e; exact Or.inl (by decide)))) (h 60 20 (by decide) (by decide)) (xm_86_W h86 hW).1 (xm_86_W h86 hW).2 (fun q j h1 h2 => (h q j (by omega) (by omega)).trans (hK q j h1 h2)) ?_
    unfold fr_r
    rw [show M2 84 = M1 84 from funext (fun j => h 84 j (by decide) (by decide))])
theorem xw_fr_nextW {A : Nat → Nat} {h0 : g_H} {d : Nat} {M M1 : xa_M} {post : Option xa_V → xa_M → Prop} {y : Int} (hK : fr_K M M1) (hW : xm_W M1 y) (k : ∀ (r : Int) (M2 : xa_M), (r = 0 ∨ r = 1) → xw_cor M1 M2 → M2 60 20 = M1 60 20 → (∀ z, z ≤ y + 1 → r = 1 → xm_W M2 z) → (r = 1 → xm_rk M2 (M2 60 32).toNat < xm_rk M1 (M1 60 32).toNat) → fr_K M M2 → (r = 1 → fr_r M M2 = fr_r M M1 + 1) → (r = 0 → fr_r M M1 + 1 = fs_pr (fr_L M) (fr_H M) (M 60 32).toNat) → post (some (0, 0, 0, 1, r)) M2) : xa_C xm_I A h0 (d + 1) 243 [(2, 60, 0, 0, 0)] M1 post := by
  obtain ⟨eL, eH, -, e32, -, -⟩ := fr_L_k hK
  refine ct_nextWayF hW.2.1 (fun r M2 hr h84 hF hn hl => ?_)
  rw [eL, eH, e32] at hn hl
  have e32' := h84 60 32 (by decide)
  have e0 := h84 60 0 (by decide)
  have hK2 : fr_K M M2 := fun q j h1 h2 => (h84 q j (by omega)).trans (hK q j h1 h2)
  -- xm_rk falls as fs_rk grows
  have s1 := xm_rks (M := M1) (M1 60 32).toNat
  have s2 := xm_rks (M := M2) (M2 60 32).toNat
  obtain ⟨eL2, eH2, -, e322, -, -⟩ := fr_L_k hK2
  rw [eL, eH] at s1
  rw [eL2, eH2] at s2
  rw [e32] at s1
  rw [e322] at s2
  have hlt : r = 1 → xm_rk M2 (M2 60 32).toNat < xm_rk M1 (M1 60 32).toNat := fun h1 => by
    have := hn h1
    rw [e32, e322]
    omega
  refine k r M2 hr (xw_84_c h84) (h84 60 20 (by decide)) (fun z hz h1 => ⟨fun i i0 i1 => ?_, hF, ?_, ?_⟩) hlt hK2 hn hl
  · rw [e32'] at i1
    rw [e0, h84 80 i (by decide)]
    exact hW.1 i i0 i1
  · rw [e32', xm_pr_84 h84]
    exact hW.2.2.1
  · have := hlt h1
    have := hW.2.2.2
    omega
theorem xw_ct_readyF {A : Nat → Nat} {h0 : g_H} {d : Nat} {M : xa_M} {post : Option xa_V → xa_M → Prop} {l1 u1 l2 u2 : Int} {a b : Int} (hI : xm_Inv M) (k : ∀ (r : Int) (M1 : xa_M), (r = 0 ∨ r = -1 ∨ r = -2 ∨ r = -4) → xw_cor M M1 → (r = 0 → xm_way M1 ∧ xm_pr M1 (M1 60 32).toNat ≤ 200000 ∧ 0 ≤ b ∧ b < M 60 11) → rd_Q M a b M1 r → post (some (0, 0, -4, 0, r)) M1) : xa_C xm_I A h0 (d + 3) 238 [(2, 60, 0, 0, 0), (0, 0, l1, u1, a), (0, 0, l2, u2, b)] M post := by
  refine xa_C_arg [(2, 60, 0, 0, 0), (0, 0, (-2147483648), 2147483647, a), (0, 0, (-2147483648), 2147483647, b)] (xa_svR (xa_svI (fun _ _ _ _ => by omega) (xa_svI (fun _ _ _ _ => by omega) xa_sv0))) (xa_C_wk ?_)
  refine xa_meth (Q0 := (3, 1, false, 0, 0, 12)) (by decide +kernel) ⟨rfl, rfl⟩ (full := s_c_238) rfl rfl ?_
  intro hM hv Q hgo
  refine hgo.1 23 [] 0 _ _ _ ?_
  show xa_C xm_I A h0 _ 214 [(0, 0, (-2147483648), 2147483647, a), (0, 0, 1, 1, 1), (0, 0, 9, 9, 9)] M _
  refine ct_in ?_ ?_
  · intro (i1 : 1 ≤ a ∧ a ≤ 9)
    show xa_C xm_I A h0 _ 239 [(2, 60, 0, 0, 0), (0, 0, (-2147483648), 2147483647, b)] M _
    refine ct_isPeriod ?_ ?_
    · intro (i2 : 0 ≤ b ∧ b < (M 60 11))
      show xa_C xm_I A h0 _ 236 [(2, 60, 0, 0, 0), (0, 0, (-2147483648), 2147483647, a)] M _
      refine rw_fx (j := 236) (by decide) (xa_C_mok (ct_findWayG (xw_Inv_cor xw_cor_r hI) (by omega) (by omega) (fun v3 M3 hv3 hc3 hw3 hq3 hM3 => ?_)))
      intro r9hc3
      replace hc3 := xw_of hc3 r9hc3
      refine And.intro ?_ ?_
      · intro (c4 : ¬ v3 = 0)
        show xa_C xm_I A h0 _ 240 [(2, 60, 0, 0, 0)] M3 _
        refine ct_areTooManyF (xw_Inv_cor (xw_cor_t xw_cor_r hc3) hI) (hw3 (by omega)) (fun r5 zr5 yr5 yw5 => ?_)
        refine And.intro ?_ ?_
        · intro (c6 : r5 = 0)
          show xa_wk post (some (0, 0, 0, 0, 0)) M3
          exact xa_wkI 0 rfl (fun _ _ => by omega) (k 0 _ (by omega) (xw_cor_t xw_cor_r hc3) (fun e => by first | (exfalso; omega) | exact ⟨hw3 (by omega), yr5 (by omega), by omega, by omega⟩) (Or.inr ⟨⟨by omega, by omega⟩, Or.inr ⟨wv_Q1 hq3 (by omega), Or.inr ⟨yr5 (by omega), rfl⟩⟩⟩))
        · intro (c6 : ¬ r5 = 0)
          show xa_wk post (some (0, 0, (-4), (-4), (-4))) M3
          exact xa_wkI (-4) rfl (fun _ _ => by omega) (k (-4) _ (by omega) (xw_cor_t xw_cor_r hc3) (fun e => by first | (exfalso; omega) | exact ⟨hw3 (by omega), yr5 (by omega), by omega, by omega⟩) (Or.inr ⟨⟨by omega, by omega⟩, Or.inr ⟨wv_Q1 hq3 (by omega), Or.inl ⟨yw5 (by omega), rfl⟩⟩⟩))
      · intro (c4 : v3 = 0)
        show xa_wk post (some (0, 0, (-2), (-2), (-2))) M3
        exact xa_wkI (-2) rfl (fun _ _ => by omega) (k (-2) _ (by omega) (xw_cor_t xw_cor_r hc3) (fun e => absurd e (by decide)) (Or.inr ⟨⟨by omega, by omega⟩, Or.inl ⟨wv_Q1 hq3 (by omega), rfl⟩⟩))
    · intro (i2 : ¬ (0 ≤ b ∧ b < (M 60 11)))
      show xa_wk post (some (0, 0, (-1), (-1), (-1))) M
      exact xa_wkI (-1) rfl (fun _ _ => by omega) (k (-1) _ (by omega) xw_cor_r (fun e => by first | (exfalso; omega) | exact ⟨hw0 (by omega), yr5 (by omega), by omega, by omega⟩) (Or.inl ⟨fun h => by omega, rfl⟩))
  · intro (i1 : ¬ (1 ≤ a ∧ a ≤ 9))
    show xa_wk post (some (0, 0, (-1), (-1), (-1))) M
    exact xa_wkI (-1) rfl (fun _ _ => by omega) (k (-1) _ (by omega) xw_cor_r (fun e => by first | (exfalso; omega) | exact ⟨hw0 (by omega), yr5 (by omega), by omega, by omega⟩) (Or.inl ⟨fun h => by omega, rfl⟩))
theorem xw_fm_firstW {A : Nat → Nat} {h0 : g_H} {d : Nat} {M : xa_M} {post : Option xa_V → xa_M → Prop} (hI : xm_Inv M) (hY : xm_Y M) (k : ∀ (M1 : xa_M), xw_cor M M1 → M1 60 20 = M 60 20 → xm_W M1 0 → fr_K M M1 → fr_r M M1 = 0 → post none M1) : xa_C xm_I A h0 (d + 1) 241 [(2, 60, 0, 0, 0)] M post :=
  xa_C_asm (fun hM _ => ct_firstWay (fun M1 h84 ht => by
    have hw := hY.1
    have hp := hY.2
    have e32 := h84 60 32 (by decide)
    have e0 := h84 60 0 (by decide)
    have b32 := xm_f32 hM
    have hF : xm_fit M1 := fun i i0 i1 => by
      rw [e32] at i1
      rw [h84 80 i (by decide), h84 61 _ (by decide), h84 62 _ (by decide), ht i i0 i1]
      have := xm_way_sp hM hI hw i i0 i1
      omega
    have hb := xm_rkb hF (M1 60 32).toNat (by omega)
    have hp1 : xm_pr M1 (M1 60 32).toNat ≤ 200000 := by
      rw [e32, xm_pr_84 h84]
      exact hp
    refine k M1 (xw_84_c h84) (h84 60 20 (by decide)) ⟨fun i i0 i1 => ?_, hF, hp1, by omega⟩ (fun q j h1 h2 => h84 q j (by omega)) (fs_first _ (fun i i0 i1 => ht i i0 (by omega)))
    rw [e32] at i1
    rw [e0, h84 80 i (by decide)]
    exact hw i i0 i1))
theorem xw_ms_fitF {A : Nat → Nat} {h0 : g_H} {d : Nat} {M : xa_M} {post : Option xa_V → xa_M → Prop} {l1 u1 l2 u2 l3 u3 : Int} {a x2 x3 : Int} (hI : xm_Inv M) (k : ∀ (lo hi r : Int) (M1 : xa_M), tk_T M a x2 x3 r (M1 63) → (∀ (q : Nat) (j : Int), ¬ xw_scr q j → ¬ q = 63 → M1 q j = M q j) → xm_Inv M1 → post (some (0, 0, lo, hi, r)) M1) : xa_C xm_I A h0 (d + 4) 244 [(2, 60, 0, 0, 0), (0, 0, l1, u1, a), (0, 0, l2, u2, x2), (0, 0, l3, u3, x3)] M post := by
  refine xa_C_arg [(2, 60, 0, 0, 0), (0, 0, (-2147483648), 2147483647, a), (0, 0, (-2147483648), 2147483647, x2), (0, 0, (-2147483648), 2147483647, x3)] (xa_svR (xa_svI (fun _ _ _ _ => by omega) (xa_svI (fun _ _ _ _ => by omega) (xa_svI (fun _ _ _ _ => by omega) xa_sv0)))) ?_
  refine xa_meth (Q0 := (6, 2, false, 0, 0, 12)) (by decide +kernel) ⟨rfl, rfl⟩ (full := s_c_244) rfl rfl ?_
  intro hM hv Q hgo
  have hTM := tk_M_of hM hI
  have loopT : ∀ (Mb : xa_M), (∀ i j : Int, 0 ≤ i → i < Mb 60 32 → 0 ≤ j → j < Mb 60 32 → Mb 80 i = Mb 80 j → i = j) → (∀ i, 0 ≤ i → i < Mb 60 32 → 10 ≤ Mb 84 i) → (∀ M1 : xa_M, (∀ (q : Nat) (j : Int), ¬ q = 63 → M1 q j = Mb q j) → (∀ j : Int, 0 ≤ j → j < Mb 60 32 → M1 63 (Mb 80 j) = Mb 84 j) → (∀ w : Int, (∀ j : Int, 0 ≤ j → j < Mb 60 32 → ¬ Mb 80 j = w) → M1 63 w = Mb 63 w) → xm_Inv M1 → post (some (0, 0, 1, 1, 1)) M1) → ∀ (n : Nat) (x5 : Int) (M1 : xa_M), 0 ≤ x5 ∧ x5 ≤ 14 → x5 ≤ Mb 60 32 → xm_Inv M1 → (∀ (q : Nat) (j : Int), ¬ q = 63 → M1 q j = Mb q j) → (∀ j : Int, 0 ≤ j → j < x5 → M1 63 (Mb 80 j) = Mb 84 j) → (∀ w : Int, (∀ j : Int, 0 ≤ j → j < x5 → ¬ Mb 80 j = w) → M1 63 w = Mb 63 w) → 14 - x5 < (n : Int) → Q 47 [(5, (0, 0, 0, 14, x5)), (0, (2, 60, 0, 0, 0))] [] M1 := by
    intro Mb hinj h10 kk n
    induction n with
    | zero => intro x5 M1 h1 h2 hJ hb ht hn hms; omega
    | succ n ih =>
      intro x5 M1 h1 h2 hJ hb ht hn hms
      refine hgo.2.2 _ _ _ _ (fun hM1 _ => ?_)
      have b32 := xm_f32 hM1
      have e32 := hb 60 32 (by decide)
      have e80 := hb 80 x5 (by decide)
      have e84 := hb 84 x5 (by decide)
      have t80 : x5 < 14 → 0 ≤ M1 80 x5 ∧ M1 80 x5 ≤ 13 := fun h => xm_t80 hM1 x5 h1.1 h
      have t84 : x5 < 14 → 0 ≤ M1 84 x5 ∧ M1 84 x5 ≤ 400 := fun h => xm_t84 hM1 x5 h1.1 h
      have t10 : x5 < Mb 60 32 → 10 ≤ M1 84 x5 := fun h => by
        rw [e84]
        exact h10 x5 h1.1 h
      refine hgo.1 22 [27, 47] 47 _ _ _ ?_
      refine And.intro ?_ ?_
      · intro (c1 : (M1 60 32) ≤ x5)
        have ex : x5 = Mb 60 32 := by omega
        show post (some (0, 0, 1, 1, 1)) M1
        exact kk M1 hb (by rw [← ex]; exact ht) (by rw [← ex]; exact hn) hJ
      · intro (c1 : x5 < (M1 60 32))
        refine And.intro (show 0 ≤ x5 ∧ x5 < 14 by omega) ?_
        refine And.intro (show 0 ≤ x5 ∧ x5 < 14 by omega) ?_
        show Q 47 [(5, (0, 0, 1, 15, x5 + 1)), (0, (2, 60, 0, 0, 0))] [] (xa_up M1 63 (M1 80 x5) (M1 84 x5))
        refine hgo.2.1 47 _ [(5, (0, 0, 0, 14, x5 + 1)), (0, (2, 60, 0, 0, 0))] _ _ (xa_subI rfl rfl (fun _ _ _ _ => by omega) (xa_subR rfl xa_sub0)) ?_
        refine ih (x5 + 1) (xa_up M1 63 (M1 80 x5) (M1 84 x5)) (by omega) (by omega) (xm_Inv_63 hJ (t10 (by omega))) (fun q j hq => (xa_up_ne (fun h => hq h.1)).trans (hb q j hq)) (fun j j0 j1 => ?_) (fun w hw => ?_) (by omega)
        · by_cases e : j = x5
          · rw [e, e80, e84]
            exact xa_up_eq
          · rw [e80]
            exact (xa_up_ne (fun h => e (hinj j x5 j0 (by omega) h1.1 (by omega) h.2))).trans (ht j j0 (by omega))
        · rw [e80]
          exact (xa_up_ne (fun h => hw x5 h1.1 (by omega) h.2.symm)).trans (hn w (fun j j0 j1 => hw j j0 (by omega)))
  have loop0 : ∀ (Mr : xa_M), xw_cor M Mr → tk_S M a x2 0 (Mr 60 32) (Mr 80) (Mr 81) → 0 ≤ x3 → 0 ≤ x2 ∧ x2 < M 60 11 → ∀ (n : Nat) (x4 : Int) (M1 : xa_M), xw_cor M M1 → fr_K Mr M1 → xm_W M1 0 → x4 = fs_c (fr_F Mr x2) (fr_r Mr M1).toNat → x4 ≤ x3 → xm_rk M1 (M1 60 32).toNat < (n : Int) → Q 27 [(4, (0, 0, (-2147483648), 2147483647, x4)), (3, (0, 0, (-2147483648), 2147483647, x3)), (2, (0, 0, (-2147483648), 2147483647, x2)), (0, (2, 60, 0, 0, 0))] [] M1 := by
    intro Mr hcr hS hx3 hp n
    obtain ⟨eF, ep, er, ei⟩ := fm_e (xw_to hcr) (p := x2)
    obtain ⟨hX, -, hL, -⟩ := tk_S_L hS
    induction n with
    | zero => intro x4 M1 hc hK hW hx hle hms; exact absurd hms (by have := xm_W_rk hW; omega)
    | succ n ih0 =>
      intro x4 M1 hc hK hW hx hle hms0
      refine hgo.2.2 _ _ _ _ (fun hM1 _ => ?_)
      have e11 := xw_corf hc 11 (by omega)
      have hr0 := fr_r0 hK hW.2.1
      have hcb := fs_cb (F := fr_F Mr x2) (fr_r Mr M1).toNat
      have hpr : fs_pr (fr_L Mr) (fr_H Mr) (Mr 60 32).toNat ≤ 200000 := by
        rw [← fm_pr hK]
        exact hW.2.2.1
      have hrk := xm_W_rk hW
      have hWs := hW.2.2.2
      refine hgo.1 17 [27, 47] 27 _ _ _ ?_
      show xa_C xm_I A h0 _ 242 [(2, 60, 0, 0, 0), (0, 0, (-2147483648), 2147483647, x2)] M1 _
      refine xa_C_mok (xw_fr_isF hK (xw_Inv_cor hc hI) hW (by omega) (by omega) (fun v1 M2 z1 q1 hc1 e1 wF1 rk1 hK2 er2 hM2 => ?_))
      have hc2 := xw_cor_t hc hc1
      refine And.intro ?_ ?_
      · intro (c2 : ¬ v1 = 0)
        have hf : fr_F Mr x2 (fr_r Mr M1) := q1.mp (by omega)
        refine And.intro ?_ ?_
        · intro (c3 : ¬ x4 = x3)
          show xa_C xm_I A h0 _ 243 [(2, 60, 0, 0, 0)] M2 _
          refine xa_C_mok (xw_fr_nextW hK2 wF1 (fun v4 M4 z4 hc4 e4 wN4 rk4 hK4 n4 l4 hM4 => ?_))
          have hc5 := xw_cor_t hc2 hc4
          have hn1 : x4 + 1 = fs_c (fr_F Mr x2) (fr_r Mr M2 + 1).toNat := by rw [er2, fa_c1 hr0.1 hf, ← hx]
          refine And.intro ?_ ?_
          · intro (c5 : ¬ v4 = 0)
            show Q 27 [(4, (0, 0, (-2147483648), 2147483647, xa_w32 (x4 + 1))), (3, (0, 0, (-2147483648), 2147483647, x3)), (2, (0, 0, (-2147483648), 2147483647, x2)), (0, (2, 60, 0, 0, 0))] [] M4
            rw [xa_w32_id (n := x4 + 1) (by omega) (by omega)]
            refine hgo.2.1 27 _ [(4, (0, 0, (-2147483648), 2147483647, x4 + 1)), (3, (0, 0, (-2147483648), 2147483647, x3)), (2, (0, 0, (-2147483648), 2147483647, x2)), (0, (2, 60, 0, 0, 0))] _ _ (xa_subI rfl rfl (fun _ _ _ _ => by omega) (xa_subI rfl rfl (fun _ _ _ _ => by omega) (xa_subI rfl rfl (fun _ _ _ _ => by omega) (xa_subR rfl xa_sub0)))) ?_
            exact ih0 (x4 + 1) M4 hc5 hK4 (wN4 _ (by omega) (by omega)) (by rw [n4 (by omega)]; exact hn1) (by omega) (by omega)
          · intro (c5 : v4 = 0)
            show post (some (0, 0, 0, 0, 0)) M4
            refine k _ _ 0 M4 (Or.inr ⟨hx3, 0, Mr 60 32, Mr 80, Mr 81, hS, Or.inr ⟨rfl, Or.inl ⟨rfl, ?_, fun w _ _ => xw_corq hc5 63 rfl w⟩⟩⟩) (fun q j hq _ => hc5 q j hq) (xw_Inv_cor hc5 hI)
            rw [← eF, ← ep, ← l4 (by omega), ← hn1]
            omega
        · intro (c3 : x4 = x3)
          show Q 47 [(5, (0, 0, 0, 0, 0)), (4, (0, 0, (-2147483648), 2147483647, x4)), (3, (0, 0, (-2147483648), 2147483647, x3)), (2, (0, 0, (-2147483648), 2147483647, x2)), (0, (2, 60, 0, 0, 0))] [] M2
          refine hgo.2.1 47 _ [(5, (0, 0, 0, 14, 0)), (0, (2, 60, 0, 0, 0))] _ _ (xa_subI rfl rfl (fun _ _ _ _ => by omega) (xa_subR rfl xa_sub0)) ?_
          have b32 := xm_f32 hM2
          obtain ⟨-, -, -, e32, -, -⟩ := fr_L_k hK2
          have e80 : M2 80 = Mr 80 := funext (fun j => hK2 80 j (by decide) (fun e => absurd e.1 (by decide)))
          have hI2 := xw_Inv_cor hc2 hI
          have er3 : tk_rk M (Mr 60 32) (Mr 80) (M2 84) = fr_r Mr M1 := (er (M2 84)).symm.trans er2
          refine loopT M2 (fun i j i0 i1 j0 j1 e => ?_) (xm_W10 hM2 hI2 wF1) (fun M3 hb ht hn hI3 => ?_) 15 0 M2 (by omega) (by omega) hI2 (fun _ _ _ => rfl) (fun j j0 j1 => by omega) (fun _ _ => rfl) (by omega)
          · rw [e80] at e
            exact tk_inj hTM hL i j i0 (by omega) j0 (by omega) e
          · refine k _ _ 1 M3 (Or.inr ⟨hx3, 0, Mr 60 32, Mr 80, Mr 81, hS, Or.inr ⟨rfl, Or.inr ⟨rfl, M2 84, ei _ (fr_in hK2 wF1.2.1), ?_, ?_, fun j j0 j1 => ?_, fun w w0 w1 hw => ?_⟩⟩⟩) (fun q j hq h63 => (hb q j h63).trans (hc2 q j hq)) hI3
            · rw [er3, ← eF]
              exact hf
            · rw [er3, ← eF, ← hx]
              exact c3
            · rw [← e80]
              exact ht j j0 (by omega)
            · exact (hn w (fun j j0 j1 => by rw [e80]; exact hw j j0 (by omega))).trans (xw_corq hc2 63 rfl w)
      · intro (c2 : v1 = 0)
        have hf : ¬ fr_F Mr x2 (fr_r Mr M1) := fun h => by
          have := q1.mpr h
          omega
        show xa_C xm_I A h0 _ 243 [(2, 60, 0, 0, 0)] M2 _
        refine xa_C_mok (xw_fr_nextW hK2 wF1 (fun v6 M6 z6 hc6 e6 wN6 rk6 hK6 n6 l6 hM6 => ?_))
        have hc7 := xw_cor_t hc2 hc6
        have hn1 : x4 = fs_c (fr_F Mr x2) (fr_r Mr M2 + 1).toNat := by rw [er2, fa_c0 hr0.1 hf, ← hx]
        refine And.intro ?_ ?_
        · intro (c7 : ¬ v6 = 0)
          show Q 27 [(4, (0, 0, (-2147483648), 2147483647, x4)), (3, (0, 0, (-2147483648), 2147483647, x3)), (2, (0, 0, (-2147483648), 2147483647, x2)), (0, (2, 60, 0, 0, 0))] [] M6
          refine hgo.2.1 27 _ [(4, (0, 0, (-2147483648), 2147483647, x4)), (3, (0, 0, (-2147483648), 2147483647, x3)), (2, (0, 0, (-2147483648), 2147483647, x2)), (0, (2, 60, 0, 0, 0))] _ _ (xa_subI rfl rfl (fun _ _ _ _ => by omega) (xa_subI rfl rfl (fun _ _ _ _ => by omega) (xa_subI rfl rfl (fun _ _ _ _ => by omega) (xa_subR rfl xa_sub0)))) ?_
          exact ih0 x4 M6 hc7 hK6 (wN6 _ (by omega) (by omega)) (by rw [n6 (by omega)]; exact hn1) (by omega) (by omega)
        · intro (c7 : v6 = 0)
          show post (some (0, 0, 0, 0, 0)) M6
          refine k _ _ 0 M6 (Or.inr ⟨hx3, 0, Mr 60 32, Mr 80, Mr 81, hS, Or.inr ⟨rfl, Or.inl ⟨rfl, ?_, fun w _ _ => xw_corq hc7 63 rfl w⟩⟩⟩) (fun q j hq _ => hc7 q j hq) (xw_Inv_cor hc7 hI)
          rw [← eF, ← ep, ← l6 (by omega), ← hn1]
          omega
  have hc0 : xw_cor M (xa_up M 60 21 0) := xw_cor_f (by omega) xw_cor_r
  refine hgo.1 19 [27, 47] 0 _ _ _ ?_
  show xa_C xm_I A h0 _ 238 [(2, 60, 0, 0, 0), (0, 0, (-2147483648), 2147483647, a), (0, 0, (-2147483648), 2147483647, x2)] (xa_up M 60 21 0) _
  refine xa_C_mok (xw_ct_readyF (xw_Inv_cor hc0 hI) (fun v1 M1 z1 hc1 hr1 hq1 hM1 => ?_))
  have hS := rd_S hTM (xw_to hc0) (xw_to hc1) hM1 hq1
  have hcM := xw_cor_t hc0 hc1
  refine And.intro ?_ ?_
  · intro (c2 : v1 < 0)
    show post (some (0, 0, 0, 0, 0)) M1
    by_cases c3 : x3 < 0
    · exact k _ _ 0 M1 (Or.inl ⟨c3, rfl, fun w _ _ => xw_corq hcM 63 rfl w⟩) (fun q j hq _ => hcM q j hq) (xw_Inv_cor hcM hI)
    · exact k _ _ 0 M1 (Or.inr ⟨by omega, v1, _, _, _, hS, Or.inl ⟨fun h => by omega, rfl, fun w _ _ => xw_corq hcM 63 rfl w⟩⟩) (fun q j hq _ => hcM q j hq) (xw_Inv_cor hcM hI)
  · intro (c2 : 0 ≤ v1)
    have v0 : v1 = 0 := by omega
    rw [v0] at hS
    refine And.intro ?_ ?_
    · intro (c3 : 0 ≤ x3)
      show xa_C xm_I A h0 _ 241 [(2, 60, 0, 0, 0)] M1 _
      refine xa_C_mok (xw_fm_firstW (xw_Inv_cor hcM hI) ⟨(hr1 (by omega)).1, (hr1 (by omega)).2.1⟩ (fun M4 hc4 e4 wA4 hK4 hr4 hM4 => ?_))
      have w2 := wA4.2.2.2
      show Q 27 [(4, (0, 0, 0, 0, 0)), (0, (2, 60, 0, 0, 0)), (1, (0, 0, (-2147483648), 2147483647, a)), (2, (0, 0, (-2147483648), 2147483647, x2)), (3, (0, 0, (-2147483648), 2147483647, x3))] [] M4
      refine hgo.2.1 27 _ [(4, (0, 0, (-2147483648), 2147483647, 0)), (3, (0, 0, (-2147483648), 2147483647, x3)), (2, (0, 0, (-2147483648), 2147483647, x2)), (0, (2, 60, 0, 0, 0))] _ _ (xa_subI rfl rfl (fun _ _ _ _ => by omega) (xa_subI rfl rfl (fun _ _ _ _ => by omega) (xa_subI rfl rfl (fun _ _ _ _ => by omega) (xa_subR rfl xa_sub0)))) ?_
      exact loop0 M1 hcM hS c3 (tk_S_L hS).2.1 200000 0 M4 (xw_cor_t hcM hc4) hK4 wA4 (by rw [hr4]; rfl) c3 (by omega)
    · intro (c3 : x3 < 0)
      show post (some (0, 0, 0, 0, 0)) M1
      exact k _ _ 0 M1 (Or.inl ⟨c3, rfl, fun w _ _ => xw_corq hcM 63 rfl w⟩) (fun q j hq _ => hcM q j hq) (xw_Inv_cor hcM hI)
theorem xw_fr_isG {A : Nat → Nat} {h0 : g_H} {d : Nat} {M M1 : xa_M} {post : Option xa_V → xa_M → Prop} {l u p y : Int} (hK : fr_K M M1) (hI : xm_Inv M1) (hW : xm_W M1 y) (hp0 : 0 ≤ p) (hp1 : p < M1 60 11) (k : ∀ (r : Int) (M2 : xa_M), (r = 0 ∨ r = 1) → (r = 1 ↔ fr_F M p (fr_r M M1)) → xw_cor M1 M2 → M2 60 20 = M1 60 20 → xm_W M2 y → xm_rk M2 (M2 60 32).toNat = xm_rk M1 (M1 60 32).toNat → fr_K M M2 → fr_r M M2 = fr_r M M1 → (∀ q j, ¬ q = 85 → ¬ q = 86 → M2 q j = M1 q j) → post (some (0, 0, 0, 1, r)) M2) : xa_C xm_I A h0 (d + 3) 242 [(2, 60, 0, 0, 0), (0, 0, l, u, p)] M1 post :=
  ct_isFitF hI hW.1 hW.2.1 hp0 hp1 (fun r M2 hr he h => by
    have h86 : xm_86 M1 M2 := fun q j hq => h q j hq.1 hq.2.1
    refine k r M2 hr (he.trans (fr_fit hK hW.2.1)) (fun q j hs => h q j (fun e => hs (by subst e; exact Or.inl (by decide))) (fun e => hs (by subst e; exact Or.inl (by decide)))) (h 60 20 (by decide) (by decide)) (xm_86_W h86 hW).1 (xm_86_W h86 hW).2 (fun q j h1 h2 => (h q j (by omega) (by omega)).trans (hK q j h1 h2)) ?_ (fun q j a b => h q j a b)
    unfold fr_r
    rw [show M2 84 = M1 84 from funext (fun j => h 84 j (by decide) (by decide))])
theorem xw_fr_nextG {A : Nat → Nat} {h0 : g_H} {d : Nat} {M M1 : xa_M} {post : Option xa_V → xa_M → Prop} {y : Int} (hK : fr_K M M1) (hW : xm_W M1 y) (k : ∀ (r : Int) (M2 : xa_M), (r = 0 ∨ r = 1) → xw_cor M1 M2 → M2 60 20 = M1 60 20 → (∀ z, z ≤ y + 1 → r = 1 → xm_W M2 z) → (r = 1 → xm_rk M2 (M2 60 32).toNat < xm_rk M1 (M1 60 32).toNat) → fr_K M M2 → (r = 1 → fr_r M M2 = fr_r M M1 + 1) → (r = 0 → fr_r M M1 + 1 = fs_pr (fr_L M) (fr_H M) (M 60 32).toNat) → xm_84 M1 M2 → post (some (0, 0, 0, 1, r)) M2) : xa_C xm_I A h0 (d + 1) 243 [(2, 60, 0, 0, 0)] M1 post := by
  obtain ⟨eL, eH, -, e32, -, -⟩ := fr_L_k hK
  refine ct_nextWayF hW.2.1 (fun r M2 hr h84 hF hn hl => ?_)
  rw [eL, eH, e32] at hn hl
  have e32' := h84 60 32 (by decide)
  have e0 := h84 60 0 (by decide)
  have hK2 : fr_K M M2 := fun q j h1 h2 => (h84 q j (by omega)).trans (hK q j h1 h2)
  -- xm_rk falls as fs_rk grows
  have s1 := xm_rks (M := M1) (M1 60 32).toNat
  have s2 := xm_rks (M := M2) (M2 60 32).toNat
  obtain ⟨eL2, eH2, -, e322, -, -⟩ := fr_L_k hK2
  rw [eL, eH] at s1
  rw [eL2, eH2] at s2
  rw [e32] at s1
  rw [e322] at s2
  have hlt : r = 1 → xm_rk M2 (M2 60 32).toNat < xm_rk M1 (M1 60 32).toNat := fun h1 => by
    have := hn h1
    rw [e32, e322]
    omega
  refine k r M2 hr (xw_84_c h84) (h84 60 20 (by decide)) (fun z hz h1 => ⟨fun i i0 i1 => ?_, hF, ?_, ?_⟩) hlt hK2 hn hl h84
  · rw [e32'] at i1
    rw [e0, h84 80 i (by decide)]
    exact hW.1 i i0 i1
  · rw [e32', xm_pr_84 h84]
    exact hW.2.2.1
  · have := hlt h1
    have := hW.2.2.2
    omega
theorem xw_fm_firstG {A : Nat → Nat} {h0 : g_H} {d : Nat} {M : xa_M} {post : Option xa_V → xa_M → Prop} (hI : xm_Inv M) (hY : xm_Y M) (k : ∀ (M1 : xa_M), xw_cor M M1 → M1 60 20 = M 60 20 → xm_W M1 0 → fr_K M M1 → fr_r M M1 = 0 → xm_84 M M1 → post none M1) : xa_C xm_I A h0 (d + 1) 241 [(2, 60, 0, 0, 0)] M post :=
  xa_C_asm (fun hM _ => ct_firstWay (fun M1 h84 ht => by
    have hw := hY.1
    have hp := hY.2
    have e32 := h84 60 32 (by decide)
    have e0 := h84 60 0 (by decide)
    have b32 := xm_f32 hM
    have hF : xm_fit M1 := fun i i0 i1 => by
      rw [e32] at i1
      rw [h84 80 i (by decide), h84 61 _ (by decide), h84 62 _ (by decide), ht i i0 i1]
      have := xm_way_sp hM hI hw i i0 i1
      omega
    have hb := xm_rkb hF (M1 60 32).toNat (by omega)
    have hp1 : xm_pr M1 (M1 60 32).toNat ≤ 200000 := by
      rw [e32, xm_pr_84 h84]
      exact hp
    refine k M1 (xw_84_c h84) (h84 60 20 (by decide)) ⟨fun i i0 i1 => ?_, hF, hp1, by omega⟩ (fun q j h1 h2 => h84 q j (by omega)) (fs_first _ (fun i i0 i1 => ht i i0 (by omega))) h84
    rw [e32] at i1
    rw [e0, h84 80 i (by decide)]
    exact hw i i0 i1))
theorem xw_ct_countFitsN {A : Nat → Nat} {h0 : g_H} {d : Nat} {M : xa_M} {post : Option xa_V → xa_M → Prop} {l1 u1 : Int} {x1 : Int} (hI : xm_Inv M) (hY : xm_Y M) (p0 : 0 ≤ x1) (p1 : x1 < M 60 11) (k : ∀ (M1 : xa_M), xw_cor M M1 → (∃ Mr, fr_K M Mr ∧ fr_K Mr M1 ∧ M1 60 39 = fs_c (fr_F Mr x1) (fs_pr (fr_L Mr) (fr_H Mr) (Mr 60 32).toNat).toNat ∧ fr_A Mr x1 (M1 87) (fun _ => fs_pr (fr_L Mr) (fr_H Mr) (Mr 60 32).toNat)) → post none M1) : xa_C xm_I A h0 (d + 4) 246 [(2, 60, 0, 0, 0), (0, 0, l1, u1, x1)] M post := by
  refine xa_C_arg [(2, 60, 0, 0, 0), (0, 0, (-2147483648), 2147483647, x1)] (xa_svR (xa_svI (fun _ _ _ _ => by omega) xa_sv0)) ?_
  refine xa_meth (Q0 := (3, 0, false, 0, 0, 12)) (by decide +kernel) ⟨rfl, rfl⟩ (full := s_c_246) rfl rfl ?_
  intro hM hv Q hgo
  have loop1 : ∀ (Mr : xa_M), fr_K M Mr → ∀ (n : Nat) (M1 : xa_M), xw_cor M M1 → xm_W M1 0 → fr_K Mr M1 → M1 60 39 = fs_c (fr_F Mr x1) (fr_r Mr M1).toNat → fr_A Mr x1 (M1 87) (fun _ => fr_r Mr M1) → fs_pr (fr_L Mr) (fr_H Mr) (Mr 60 32).toNat ≤ 200000 → xm_rk M1 (M1 60 32).toNat < (n : Int) → Q 33 [(1, (0, 0, (-2147483648), 2147483647, x1)), (0, (2, 60, 0, 0, 0))] [] M1 := by
    intro Mr hKr n
    induction n with
    | zero => intro M1 hc hW hK hx hA hp hms; exact absurd hms (by have := xm_W_rk hW; omega)
    | succ n ih1 =>
      intro M1 hc hW hK hx hA hp hms1
      refine hgo.2.2 _ _ _ _ (fun hM1 _ => ?_)
      have e11 := xw_corf hc 11 (by omega)
      have b32 := xm_f32 hM1
      have hrk := (xm_rkb hW.2.1 (M1 60 32).toNat (by omega)).1
      have hWs := hW.2.2.2
      obtain ⟨e, he⟩ : ∃ e, e = xm_rk M1 (M1 60 32).toNat := ⟨_, rfl⟩
      have loop2 : ∀ (n : Nat) (x2 : Int) (M1 : xa_M), 0 ≤ x2 ∧ x2 ≤ 14 → xw_cor M M1 → xm_W M1 0 → xm_rk M1 (M1 60 32).toNat = e → fr_K Mr M1 → fr_F Mr x1 (fr_r Mr M1) → M1 60 39 = fs_c (fr_F Mr x1) (fr_r Mr M1).toNat + 1 → fr_A Mr x1 (M1 87) (fun i => if i < x2 then fr_r Mr M1 + 1 else fr_r Mr M1) → 14 - x2 < (n : Int) → Q 56 [(2, (0, 0, 0, 14, x2)), (1, (0, 0, (-2147483648), 2147483647, x1)), (0, (2, 60, 0, 0, 0))] [] M1 := by
        intro n
        induction n with
        | zero => intro x2 M1 b2 hc hW hrke hK hf hx hA hms; clear hf hx hA; omega
        | succ n ih2 =>
          intro x2 M1 b2 hc hW hrke hK hf hx hA hms2
          refine hgo.2.2 _ _ _ _ (fun hM1 _ => ?_)
          have e11 := xw_corf hc 11 (by omega)
          have b32 := xm_f32 hM1
          have hrk := (xm_rkb hW.2.1 (M1 60 32).toNat (by omega)).1
          have hWs := hW.2.2.2
          have hr0 := fr_r0 hK hW.2.1
          obtain ⟨eL, eH, -, e32, -, -⟩ := fr_L_k hK
          have hin := fr_in hK hW.2.1
          have hn1 : M1 60 39 = fs_c (fr_F Mr x1) (fr_r Mr M1 + 1).toNat := by rw [fa_c1 hr0.1 hf]; exact hx
          have t84 : x2 < M1 60 32 → 0 ≤ M1 84 x2 ∧ M1 84 x2 ≤ 400 := fun h => xm_t84 hM1 x2 (by omega) (by omega)
          refine hgo.1 26 [2, 33, 56] 56 _ _ _ ?_
          refine And.intro ?_ ?_
          · intro (c1 : (M1 60 32) ≤ x2)
            show xa_C xm_I A h0 _ 243 [(2, 60, 0, 0, 0)] M1 _
            refine xa_C_mok (xw_fr_nextG hK hW (fun v2 M2 z2 hc2 e2 wN2 rk2 hK2 n2 l2 g2 hM2 => ?_))
            refine And.intro ?_ ?_
            · intro (c3 : ¬ v2 = 0)
              show Q 33 [(2, (0, 0, 0, 14, x2)), (1, (0, 0, (-2147483648), 2147483647, x1)), (0, (2, 60, 0, 0, 0))] [] M2
              refine hgo.2.1 33 _ [(1, (0, 0, (-2147483648), 2147483647, x1)), (0, (2, 60, 0, 0, 0))] _ _ (xa_subI rfl rfl (fun _ _ _ _ => by omega) (xa_subR rfl xa_sub0)) ?_
              have g87 : M2 87 = M1 87 := funext (fun j => g2 87 j (by decide))
              exact ih1 M2 (xw_cor_t hc hc2) (wN2 _ (by omega) (by omega)) hK2 (by rw [n2 (by omega), g2 60 39 (by decide)]; exact hn1) (by rw [g87, n2 (by omega)]; exact fr_Af hA (fun i i0 i1 => if_pos (by omega))) hp (by omega)
            · intro (c3 : v2 = 0)
              show post none M2
              have g87 : M2 87 = M1 87 := funext (fun j => g2 87 j (by decide))
              exact k _ (xw_cor_t hc hc2) ⟨Mr, hKr, hK2, by rw [g2 60 39 (by decide), ← l2 (by omega)]; exact hn1, by rw [g87, ← l2 (by omega)]; exact fr_Af (g := fun _ => fr_r Mr M1 + 1) hA (fun i i0 i1 => if_pos (by omega))⟩
          · intro (c1 : x2 < (M1 60 32))
            refine And.intro (show 0 ≤ x2 ∧ x2 < 14 by omega) ?_
            refine And.intro (show 0 ≤ ((401 * x2) + (M1 84 x2)) ∧ ((401 * x2) + (M1 84 x2)) < 5614 by omega) ?_
            refine And.intro (show 0 ≤ ((401 * x2) + (M1 84 x2)) ∧ ((401 * x2) + (M1 84 x2)) < 5614 by omega) ?_
            show Q 56 [(2, (0, 0, 1, 15, x2 + 1)), (1, (0, 0, (-2147483648), 2147483647, x1)), (0, (2, 60, 0, 0, 0))] [] (xa_up M1 87 ((401 * x2) + (M1 84 x2)) (xa_w32 ((M1 87 ((401 * x2) + (M1 84 x2))) + 1)))
            refine hgo.2.1 56 _ [(2, (0, 0, 0, 14, x2 + 1)), (1, (0, 0, (-2147483648), 2147483647, x1)), (0, (2, 60, 0, 0, 0))] _ _ (xa_subI rfl rfl (fun _ _ _ _ => by omega) (xa_subI rfl rfl (fun _ _ _ _ => by omega) (xa_subR rfl xa_sub0))) ?_
            have e84 : (xa_up M1 87 ((401 * x2) + (M1 84 x2)) (xa_w32 ((M1 87 ((401 * x2) + (M1 84 x2))) + 1))) 84 = M1 84 := funext (fun j => xa_up_ne (by omega))
            have er2 : fr_r Mr (xa_up M1 87 ((401 * x2) + (M1 84 x2)) (xa_w32 ((M1 87 ((401 * x2) + (M1 84 x2))) + 1))) = fr_r Mr M1 := by
              unfold fr_r
              rw [e84]
            have ab := fr_Ab hA b2.1 (show x2 < Mr 60 32 by omega) (t84 c1).1 (t84 c1).2 (if_neg (by omega)) hr0.1
            have hp9 := hr0.2
            have hv9 : xa_w32 ((M1 87 ((401 * x2) + (M1 84 x2))) + 1) = M1 87 ((401 * x2) + (M1 84 x2)) + 1 := xa_w32_id (by omega) (by omega)
            exact ih2 (x2 + 1) (xa_up M1 87 ((401 * x2) + (M1 84 x2)) (xa_w32 ((M1 87 ((401 * x2) + (M1 84 x2))) + 1))) (by omega) (xw_cor_a rfl hc) (xm_86_W (xm_86_s (by omega)) hW).1 ((xm_86_W (xm_86_s (by omega)) hW).2.trans hrke) (fun q j h1 h2 => (xa_up_ne (by omega)).trans (hK q j h1 h2)) (by rw [er2]; exact hf) (by rw [er2]; exact (xa_up_ne (by omega)).trans hx) (by rw [er2]; exact fr_As hin rfl hf hr0.1 b2.1 (by omega) (t84 c1) hA hv9) (by omega)
      refine hgo.1 17 [2, 33, 56] 33 _ _ _ ?_
      show xa_C xm_I A h0 _ 242 [(2, 60, 0, 0, 0), (0, 0, (-2147483648), 2147483647, x1)] M1 _
      refine xa_C_mok (xw_fr_isG hK (xw_Inv_cor hc hI) hW (by omega) (by omega) (fun v1 M1 z1 q1 hc1 e1 wF1 rk1 hK er1 g1 hM1 => ?_))
      rw [← er1] at q1 hx
      rw [← g1 60 39 (by decide) (by decide)] at hx
      have g87 : M1 87 = _ := funext (fun j => g1 87 j (by decide) (by decide))
      rw [← er1, ← g87] at hA
      have hr0 := fr_r0 hK wF1.2.1
      have hcb := fs_cb (F := fr_F Mr x1) (fr_r Mr M1).toNat
      refine And.intro ?_ ?_
      · intro (c2 : ¬ v1 = 0)
        show Q 56 [(2, (0, 0, 0, 0, 0)), (1, (0, 0, (-2147483648), 2147483647, x1)), (0, (2, 60, 0, 0, 0))] [] (xa_up M1 60 39 (xa_w32 ((M1 60 39) + 1)))
        refine hgo.2.1 56 _ [(2, (0, 0, 0, 14, 0)), (1, (0, 0, (-2147483648), 2147483647, x1)), (0, (2, 60, 0, 0, 0))] _ _ (xa_subI rfl rfl (fun _ _ _ _ => by omega) (xa_subI rfl rfl (fun _ _ _ _ => by omega) (xa_subR rfl xa_sub0))) ?_
        have e84 : (xa_up M1 60 39 (xa_w32 ((M1 60 39) + 1))) 84 = M1 84 := funext (fun j => xa_up_ne (by omega))
        have er2 : fr_r Mr (xa_up M1 60 39 (xa_w32 ((M1 60 39) + 1))) = fr_r Mr M1 := by
          unfold fr_r
          rw [e84]
        have hw := xa_w32_id (n := M1 60 39 + 1) (by omega) (by omega)
        have e87 : (xa_up M1 60 39 (xa_w32 ((M1 60 39) + 1))) 87 = M1 87 := funext (fun j => xa_up_ne (by omega))
        exact loop2 15 0 (xa_up M1 60 39 (xa_w32 ((M1 60 39) + 1))) (by omega) (xw_cor_f (by omega) (xw_cor_t hc hc1)) (xm_86_W (xm_86_s (by omega)) wF1).1 ((xm_86_W (xm_86_s (by omega)) wF1).2.trans (rk1.trans he.symm)) (fun q j h1 h2 => (xa_up_ne (by omega)).trans (hK q j h1 h2)) (by rw [er2]; exact q1.mp (by omega)) (by rw [er2, xa_up_eq, hw, hx]) (by rw [e87, er2]; exact fr_Af hA (fun i i0 i1 => (if_neg (by omega)).symm)) (by omega)
      · intro (c2 : v1 = 0)
        have hn0 : M1 60 39 = fs_c (fr_F Mr x1) (fr_r Mr M1 + 1).toNat := by rw [fa_c0 hr0.1 (fun h => by have := q1.mpr h; omega)]; exact hx
        show xa_C xm_I A h0 _ 243 [(2, 60, 0, 0, 0)] M1 _
        refine xa_C_mok (xw_fr_nextG hK wF1 (fun v3 M3 z3 hc3 e3 wN3 rk3 hK3 n3 l3 g3 hM3 => ?_))
        refine And.intro ?_ ?_
        · intro (c4 : ¬ v3 = 0)
          show Q 33 [(1, (0, 0, (-2147483648), 2147483647, x1)), (0, (2, 60, 0, 0, 0))] [] M3
          refine hgo.2.1 33 _ [(1, (0, 0, (-2147483648), 2147483647, x1)), (0, (2, 60, 0, 0, 0))] _ _ (xa_subI rfl rfl (fun _ _ _ _ => by omega) (xa_subR rfl xa_sub0)) ?_
          have g87 : M3 87 = M1 87 := funext (fun j => g3 87 j (by decide))
          exact ih1 M3 (xw_cor_t (xw_cor_t hc hc1) hc3) (wN3 _ (by omega) (by omega)) hK3 (by rw [n3 (by omega), g3 60 39 (by decide)]; exact hn0) (by rw [g87, n3 (by omega)]; exact fr_A0 hA (fun h => by have := q1.mpr h; omega) hr0.1) hp (by omega)
        · intro (c4 : v3 = 0)
          show post none M3
          have g87 : M3 87 = M1 87 := funext (fun j => g3 87 j (by decide))
          exact k _ (xw_cor_t (xw_cor_t hc hc1) hc3) ⟨Mr, hKr, hK3, by rw [g3 60 39 (by decide), ← l3 (by omega)]; exact hn0, by rw [g87, ← l3 (by omega)]; exact fr_A0 hA (fun h => by have := q1.mpr h; omega) hr0.1⟩
  have loop0 : ∀ (n : Nat) (x2 : Int) (M1 : xa_M), 0 ≤ x2 ∧ x2 ≤ 5614 → xw_cor M M1 → xm_Y M1 → fr_K M M1 → (∀ j : Int, 0 ≤ j → j < x2 → M1 87 j = 0) → 5614 - x2 < (n : Int) → Q 2 [(2, (0, 0, 0, 5614, x2)), (1, (0, 0, (-2147483648), 2147483647, x1)), (0, (2, 60, 0, 0, 0))] [] M1 := by
    intro n
    induction n with
    | zero => intro x2 M1 b2 hc hY hK0 hz hms; omega
    | succ n ih0 =>
      intro x2 M1 b2 hc hY hK0 hz hms0
      have e11 := xw_corf hc 11 (by omega)
      refine hgo.1 17 [2, 33, 56] 2 _ _ _ ?_
      refine And.intro ?_ ?_
      · intro (c1 : 5614 ≤ x2)
        show xa_C xm_I A h0 _ 241 [(2, 60, 0, 0, 0)] (xa_up M1 60 39 0) _
        refine xa_C_mok (xw_fm_firstG (xw_Inv_cor (xw_cor_f (by omega) hc) hI) (xm_86_Y (xm_86_s (by omega)) hY) (fun M2 hc2 e2 wA2 hK2 hr2 g2 hM2 => ?_))
        have w2 := wA2.2.2.2
        show Q 33 [(2, (0, 0, 0, 5614, x2)), (1, (0, 0, (-2147483648), 2147483647, x1)), (0, (2, 60, 0, 0, 0))] [] M2
        refine hgo.2.1 33 _ [(1, (0, 0, (-2147483648), 2147483647, x1)), (0, (2, 60, 0, 0, 0))] _ _ (xa_subI rfl rfl (fun _ _ _ _ => by omega) (xa_subR rfl xa_sub0)) ?_
        have hp2 := hY.2
        rw [fr_pr] at hp2
        have e87 : M2 87 = M1 87 := funext (fun j => (g2 87 j (by decide)).trans (xa_up_ne (by omega)))
        have b32 : 0 ≤ (xa_up M1 60 39 0) 60 32 ∧ (xa_up M1 60 39 0) 60 32 ≤ 14 := by
          have x : (xa_up M1 60 39 0) 60 32 = M 60 32 := (xa_up_ne (by omega)).trans (hK0 60 32 (by decide) (by omega))
          have := xm_f32 hM
          omega
        exact loop1 (xa_up M1 60 39 0) (fun q j h1 h2 => (xa_up_ne (by omega)).trans (hK0 q j h1 h2)) 200000 M2 (xw_cor_t (xw_cor_f (by omega) hc) hc2) wA2 hK2 (by rw [hr2, g2 60 39 (by decide)]; exact xa_up_eq) (by rw [e87, hr2]; exact fun i n i0 i1 n0 n1 => (hz _ (by omega) (by omega)).trans rfl) hp2 (by omega)
      · intro (c1 : x2 < 5614)
        refine And.intro (show 0 ≤ x2 ∧ x2 < 5614 by omega) ?_
        show Q 2 [(2, (0, 0, 1, 5615, x2 + 1)), (1, (0, 0, (-2147483648), 2147483647, x1)), (0, (2, 60, 0, 0, 0))] [] (xa_up M1 87 x2 0)
        refine hgo.2.1 2 _ [(2, (0, 0, 0, 5614, x2 + 1)), (1, (0, 0, (-2147483648), 2147483647, x1)), (0, (2, 60, 0, 0, 0))] _ _ (xa_subI rfl rfl (fun _ _ _ _ => by omega) (xa_subI rfl rfl (fun _ _ _ _ => by omega) (xa_subR rfl xa_sub0))) ?_
        exact ih0 (x2 + 1) (xa_up M1 87 x2 0) (by omega) (xw_cor_a rfl hc) (xm_86_Y (xm_86_s (by omega)) hY) (fun q j h1 h2 => (xa_up_ne (by omega)).trans (hK0 q j h1 h2)) (fun j j0 j1 => by
          by_cases e : j = x2
          · rw [e]
            exact xa_up_eq
          · exact (xa_up_ne (fun g => e g.2)).trans (hz j j0 (by omega))) (by omega)
  refine hgo.1 7 [2, 33, 56] 0 _ _ _ ?_
  show Q 2 [(2, (0, 0, 0, 0, 0)), (0, (2, 60, 0, 0, 0)), (1, (0, 0, (-2147483648), 2147483647, x1))] [] M
  refine hgo.2.1 2 _ [(2, (0, 0, 0, 5614, 0)), (1, (0, 0, (-2147483648), 2147483647, x1)), (0, (2, 60, 0, 0, 0))] _ _ (xa_subI rfl rfl (fun _ _ _ _ => by omega) (xa_subI rfl rfl (fun _ _ _ _ => by omega) (xa_subR rfl xa_sub0))) ?_
  exact loop0 5615 0 M (by omega) xw_cor_r hY fr_Kr (fun j j0 j1 => by omega) (by omega)
theorem xw_ct_stateOfF {A : Nat → Nat} {h0 : g_H} {d : Nat} {M : xa_M} {post : Option xa_V → xa_M → Prop} {l1 u1 : Int} {a : Int} (hI : xm_Inv M) (ha0 : 0 ≤ a) (ha1 : a ≤ 9) (k : ∀ (v w : Int) (M1 : xa_M), xw_cor M M1 → xm_trn M1 → xm_FT (-1) M w M1 → ((w = 0 ∨ w = -3 ∨ w = -5) ∧ v ≤ 0) → (0 ≤ v → w = 0 ∧ M1 77 a = 1 ∧ 1 ≤ M1 76 a) → ((v = w ∧ ¬ w = 0) ∨ (w = 0 ∧ M1 77 a = 0 ∧ v = -2) ∨ (w = 0 ∧ M1 77 a = 1 ∧ v = 0)) → post (some (0, 0, -5, 0, v)) M1) : xa_C xm_I A h0 (d + 5) 226 [(2, 60, 0, 0, 0), (0, 0, l1, u1, a)] M post := by
  refine xa_C_arg [(2, 60, 0, 0, 0), (0, 0, 0, 9, a)] (xa_svR (xa_svI (fun _ _ _ _ => by omega) xa_sv0)) (xa_C_wk ?_)
  refine xa_meth (Q0 := (3, 1, false, 0, 0, 12)) (by decide +kernel) ⟨rfl, rfl⟩ (full := s_c_226) rfl rfl ?_
  intro hM hv Q hgo
  refine hgo.1 18 [] 0 _ _ _ ?_
  show xa_C xm_I A h0 _ 227 [(2, 60, 0, 0, 0), (0, 0, (-1), (-1), (-1))] M _
  refine xa_C_mok (xw_ct_findTurns (xw_Inv_cor xw_cor_r hI) (fun v1 M1 hv1 hc1 hT1 hF1 hM1 => ?_))
  refine And.intro ?_ ?_
  · intro (c2 : 0 ≤ v1)
    refine And.intro ?_ ?_
    · intro (c3 : (M1 77 a) = 0)
      show xa_wk post (some (0, 0, (-2), (-2), (-2))) M1
      have t := xm_t77 hM1 a ha0 (by omega)
      exact xa_wkI (-2) rfl (fun _ _ => by omega) (k (-2) v1 M1 hc1 hT1 hF1 (by omega) (fun _ => ⟨by omega, by omega, by first | exact hT1 a ha0 (by omega) (by omega) | omega⟩) (by omega))
    · intro (c3 : ¬ (M1 77 a) = 0)
      show xa_wk post (some (0, 0, 0, 0, 0)) M1
      have t := xm_t77 hM1 a ha0 (by omega)
      exact xa_wkI 0 rfl (fun _ _ => by omega) (k 0 v1 M1 hc1 hT1 hF1 (by omega) (fun _ => ⟨by omega, by omega, by first | exact hT1 a ha0 (by omega) (by omega) | omega⟩) (by omega))
  · intro (c2 : v1 < 0)
    show xa_wk post (some (0, 0, (-5), 0, v1)) M1
    have t := xm_t77 hM1 a ha0 (by omega)
    exact xa_wkI v1 rfl (fun _ _ => by omega) (k v1 v1 M1 hc1 hT1 hF1 (by omega) (fun _ => ⟨by omega, by omega, by first | exact hT1 a ha0 (by omega) (by omega) | omega⟩) (by omega))
theorem xw_ct_fairStateF {A : Nat → Nat} {h0 : g_H} {d : Nat} {M : xa_M} {post : Option xa_V → xa_M → Prop} {l1 u1 : Int} {a : Int} (hI : xm_Inv M) (ha0 : 0 ≤ a) (ha1 : a ≤ 9) (k : ∀ (v w : Int) (M1 : xa_M), xw_cor M M1 → xm_trn M1 → xm_FT (-1) M w M1 → ((w = 0 ∨ w = -3 ∨ w = -5) ∧ v ≤ 0) → (0 ≤ v → w = 0 ∧ M1 77 a = 1 ∧ 1 ≤ M1 76 a ∧ M1 76 a ≤ 1000000000 ∧ ((M1 75 a).natAbs : Int) ≤ 1000000000) → ((v = w ∧ ¬ w = 0) ∨ (w = 0 ∧ M1 77 a = 0 ∧ v = -2) ∨ (w = 0 ∧ M1 77 a = 1 ∧ tw_fT a M1 v)) → post (some (0, 0, -5, 0, v)) M1) : xa_C xm_I A h0 (d + 6) 273 [(2, 60, 0, 0, 0), (0, 0, l1, u1, a)] M post := by
  refine xa_C_arg [(2, 60, 0, 0, 0), (0, 0, 0, 9, a)] (xa_svR (xa_svI (fun _ _ _ _ => by omega) xa_sv0)) (xa_C_wk ?_)
  refine xa_meth (Q0 := (3, 1, false, 0, 0, 12)) (by decide +kernel) ⟨rfl, rfl⟩ (full := s_c_273) rfl rfl ?_
  intro hM hv Q hgo
  refine hgo.1 26 [] 0 _ _ _ ?_
  show xa_C xm_I A h0 _ 226 [(2, 60, 0, 0, 0), (0, 0, 0, 9, a)] M _
  refine xa_C_mok (xw_ct_stateOfF (xw_Inv_cor xw_cor_r hI) (by omega) (by omega) (fun v1 w1 M1 hc1 hT1 hF1 hw1 hv1 hs1 hM1 => ?_))
  refine And.intro ?_ ?_
  · intro (c2 : 0 ≤ v1)
    show xa_C xm_I A h0 _ 56 [(1, 0, (-1000000000000000), 1000000000000000, M1 75 a)] M1 _
    refine ct_absb 1000000000000000 (by decide) (by decide) (by decide) (fun a3 ea3 => ?_)
    refine And.intro ?_ ?_
    · intro (c4 : 1000000000 < a3)
      show xa_wk post (some (0, 0, (-5), (-5), (-5))) M1
      exact xa_wkI (-5) rfl (fun _ _ => by omega) (k (-5) w1 M1 hc1 hT1 hF1 (by omega) (fun _ => ⟨by omega, by omega, by omega, by omega, by omega⟩) (by unfold tw_fT tw_L; omega))
    · intro (c4 : a3 ≤ 1000000000)
      refine And.intro ?_ ?_
      · intro (c5 : (M1 76 a) ≤ 1000000000)
        show xa_wk post (some (0, 0, 0, 0, 0)) M1
        exact xa_wkI 0 rfl (fun _ _ => by omega) (k 0 w1 M1 hc1 hT1 hF1 (by omega) (fun _ => ⟨by omega, by omega, by omega, by omega, by omega⟩) (by unfold tw_fT tw_L; omega))
      · intro (c5 : 1000000000 < (M1 76 a))
        show xa_wk post (some (0, 0, (-5), (-5), (-5))) M1
        exact xa_wkI (-5) rfl (fun _ _ => by omega) (k (-5) w1 M1 hc1 hT1 hF1 (by omega) (fun _ => ⟨by omega, by omega, by omega, by omega, by omega⟩) (by unfold tw_fT tw_L; omega))
  · intro (c2 : v1 < 0)
    show xa_wk post (some (0, 0, (-5), 0, v1)) M1
    exact xa_wkI v1 rfl (fun _ _ => by omega) (k v1 w1 M1 hc1 hT1 hF1 (by omega) (fun _ => ⟨by omega, by omega, by omega, by omega, by omega⟩) (by unfold tw_fT tw_L; omega))
theorem xw_ms_jamsV {A : Nat → Nat} {h0 : g_H} {d : Nat} {M : xa_M} {post : Option xa_V → xa_M → Prop} (hI : xm_Inv M) (k : ∀ (o : Option xa_V) (M1 : xa_M), (∃ lo hi n, o = some (0, 0, lo, hi, n) ∧ tw_62 M n) → xw_cor M M1 → post o M1) : xa_C xm_I A h0 (d + 5) 233 [(2, 60, 0, 0, 0)] M post := by
  refine xa_meth (Q0 := (5, 1, false, 0, 0, 12)) (by decide +kernel) ⟨rfl, rfl⟩ (full := s_c_233) rfl rfl ?_
  intro hM hv Q hgo
  have b6 := xm_f6 hM
  have loop : ∀ (w : Int) (Nw : xa_M), w = -3 → tw_F M (-1) w Nw → ∀ (n : Nat) (m b : Int) (M1 : xa_M) (T : Int → Int), 0 ≤ m → m ≤ 16 → m ≤ M 60 6 → xw_cor M M1 → tw_J M m T → b = wd_b (fun j => T j = 0) m.toNat → 16 - m < (n : Int) → Q 31 [(3, (0, 0, 0, 16, m)), (2, (0, 0, (-2147483648), 2147483647, b)), (0, (2, 60, 0, 0, 0))] [] M1 := by
    intro w Nw hw3 hFw n
    induction n with
    | zero => intro m b M1 T h1 h2 hn hc hJ hb hms; clear hJ hb; omega
    | succ n ih =>
      intro m b M1 T h1 h2 hn hc hJ hb hms
      have e6 := xw_corf hc 6 (by omega)
      refine hgo.1 27 [31] 31 _ _ _ ?_
      refine And.intro ?_ ?_
      · intro (c1 : (M1 60 6) ≤ m)
        show post (some (0, 0, (-2147483648), 2147483647, b)) M1
        exact k _ _ ⟨_, _, _, rfl, ⟨w, Nw, hFw, Or.inr ⟨hw3, m, T, h1, hn, hJ, Or.inl ⟨by omega, hb⟩⟩⟩⟩ hc
      · intro (c1 : m < (M1 60 6))
        show xa_C xm_I A h0 _ 227 [(2, 60, 0, 0, 0), (0, 0, 0, 16, m)] M1 _
        refine xa_C_mok (xw_ct_findTurns (xw_Inv_cor hc hI) (fun v2 M2 hv2 hc2 hT2 hF2 hM2 => ?_))
        refine And.intro ?_ ?_
        · intro (c3 : ¬ v2 = (-5))
          refine And.intro ?_ ?_
          · intro (c4 : ¬ v2 = 0)
            show Q 31 [(3, (0, 0, 1, 17, m + 1)), (2, (0, 0, (-2147483648), 2147483647, xa_ib 4 b 0)), (4, (0, 0, (-5), 0, v2)), (0, (2, 60, 0, 0, 0))] [] M2
            refine hgo.2.1 31 _ [(3, (0, 0, 0, 16, m + 1)), (2, (0, 0, (-2147483648), 2147483647, xa_ib 4 b 0)), (0, (2, 60, 0, 0, 0))] _ _ (xa_subI rfl rfl (fun _ _ _ _ => by omega) (xa_subI rfl rfl (fun _ _ _ _ => by omega) (xa_subR rfl xa_sub0))) ?_
            have hv : v2 = -3 := by omega
            rw [hv] at hF2
            obtain ⟨T', t1, t2, t3⟩ := tw_Js hJ (by omega) ⟨M1, xw_to hc, hF2⟩
            exact ih (m + 1) (xa_ib 4 b 0) _ T' (by omega) (by omega) (by omega) (xw_cor_t hc hc2) t1 (tw_bz h1 (fun h => by have : T' m = 0 := h; omega) (hb.trans (wd_b_e _ (fun p hp => by show T (p : Int) = 0 ↔ T' (p : Int) = 0; rw [t3 (p : Int) (by omega) (by omega)])))) (by omega)
          · intro (c4 : v2 = 0)
            show Q 31 [(3, (0, 0, 1, 17, m + 1)), (2, (0, 0, (-2147483648), 2147483647, xa_ib 4 b (xa_ib 6 1 m))), (4, (0, 0, (-5), 0, v2)), (0, (2, 60, 0, 0, 0))] [] M2
            refine hgo.2.1 31 _ [(3, (0, 0, 0, 16, m + 1)), (2, (0, 0, (-2147483648), 2147483647, xa_ib 4 b (xa_ib 6 1 m))), (0, (2, 60, 0, 0, 0))] _ _ (xa_subI rfl rfl (fun _ _ _ _ => by omega) (xa_subI rfl rfl (fun _ _ _ _ => by omega) (xa_subR rfl xa_sub0))) ?_
            have hv : v2 = 0 := by omega
            rw [hv] at hF2
            obtain ⟨T', t1, t2, t3⟩ := tw_Js hJ (by omega) ⟨M1, xw_to hc, hF2⟩
            exact ih (m + 1) (xa_ib 4 b (xa_ib 6 1 m)) _ T' (by omega) (by omega) (by omega) (xw_cor_t hc hc2) t1 (tw_b1 h1 t2 (hb.trans (wd_b_e _ (fun p hp => by show T (p : Int) = 0 ↔ T' (p : Int) = 0; rw [t3 (p : Int) (by omega) (by omega)])))) (by omega)
        · intro (c3 : v2 = (-5))
          show post (some (0, 0, (-5), 0, v2)) M2
          exact k _ _ ⟨_, _, _, rfl, ⟨w, Nw, hFw, Or.inr ⟨hw3, m, T, h1, hn, hJ, Or.inr ⟨by omega, ⟨_, M1, xw_to hc, (by rw [← c3]; exact hF2)⟩, c3⟩⟩⟩⟩ (xw_cor_t hc hc2)
  refine hgo.1 22 [31] 0 _ _ _ ?_
  show xa_C xm_I A h0 _ 227 [(2, 60, 0, 0, 0), (0, 0, (-1), (-1), (-1))] (xa_up M 60 21 0) _
  refine xa_C_mok (xw_ct_findTurns (xw_Inv_cor (xw_cor_f (by omega) xw_cor_r) hI) (fun v1 M1 hv1 hc1 hT1 hF1 hM1 => ?_))
  refine And.intro ?_ ?_
  · intro (c2 : v1 ≤ (-3))
    refine And.intro ?_ ?_
    · intro (c3 : ¬ v1 = (-5))
      show Q 31 [(3, (0, 0, 0, 0, 0)), (2, (0, 0, 0, 0, 0)), (1, (0, 0, (-5), 0, v1)), (0, (2, 60, 0, 0, 0))] [] M1
      refine hgo.2.1 31 _ [(3, (0, 0, 0, 16, 0)), (2, (0, 0, (-2147483648), 2147483647, 0)), (0, (2, 60, 0, 0, 0))] _ _ (xa_subI rfl rfl (fun _ _ _ _ => by omega) (xa_subI rfl rfl (fun _ _ _ _ => by omega) (xa_subR rfl xa_sub0))) ?_
      exact loop v1 M1 (by omega) ⟨_, xm_cor_f (by omega) xm_cor_r, hF1⟩ 17 0 0 _ (fun _ => 0) (by omega) (by omega) (by omega) (xw_cor_t (xw_cor_f (by omega) xw_cor_r) hc1) (fun j j0 j1 => by omega) rfl (by omega)
    · intro (c3 : v1 = (-5))
      show post (some (0, 0, (-5), 0, v1)) M1
      exact k _ _ ⟨_, _, _, rfl, ⟨v1, M1, ⟨_, xm_cor_f (by omega) xm_cor_r, hF1⟩, Or.inl ⟨by omega, by omega⟩⟩⟩ (xw_cor_t (xw_cor_f (by omega) xw_cor_r) hc1)
  · intro (c2 : (-3) < v1)
    show post (some (0, 0, 0, 0, 0)) M1
    exact k _ _ ⟨_, _, _, rfl, ⟨v1, M1, ⟨_, xm_cor_f (by omega) xm_cor_r, hF1⟩, Or.inl ⟨by omega, by omega⟩⟩⟩ (xw_cor_t (xw_cor_f (by omega) xw_cor_r) hc1)
theorem xw_ms_offV {A : Nat → Nat} {h0 : g_H} {d : Nat} {M : xa_M} {post : Option xa_V → xa_M → Prop} {l1 u1 l2 u2 l3 u3 : Int} {a b c : Int} (hI : xm_Inv M) (k : ∀ (o : Option xa_V) (M1 : xa_M), (∃ lo hi n, o = some (0, 0, lo, hi, n) ∧ tw_P ((0 ≤ b ∧ b < M 60 11) ∧ (0 ≤ c ∧ c ≤ 360)) M a n (tw_oT tw_oR M a b c)) → xw_cor M M1 → post o M1) : xa_C xm_I A h0 (d + 7) 277 [(2, 60, 0, 0, 0), (0, 0, l1, u1, a), (0, 0, l2, u2, b), (0, 0, l3, u3, c)] M post := by
  refine xa_C_arg [(2, 60, 0, 0, 0), (0, 0, (-2147483648), 2147483647, a), (0, 0, (-2147483648), 2147483647, b), (0, 0, (-2147483648), 2147483647, c)] (xa_svR (xa_svI (fun _ _ _ _ => by omega) (xa_svI (fun _ _ _ _ => by omega) (xa_svI (fun _ _ _ _ => by omega) xa_sv0)))) ?_
  refine xa_meth (Q0 := (6, 1, false, 0, 0, 12)) (by decide +kernel) ⟨rfl, rfl⟩ (full := s_c_277) rfl rfl ?_
  intro hM hv Q hgo
  have b11 := xm_f11 hM
  have loop : ∀ (n : Nat) (y : Int) (M1 : xa_M), 0 ≤ y → y ≤ 2001 → xw_cor M M1 → 1 ≤ M1 60 51 → (∀ z, 0 ≤ z → z < y → ¬ c * M1 60 51 < ((M1 60 50).natAbs : Int) * 360 * z) → (∀ v, tw_oR (((M1 60 50).natAbs : Int) * 360) (c * M1 60 51) v → tw_P ((0 ≤ b ∧ b < M 60 11) ∧ (0 ≤ c ∧ c ≤ 360)) M a v (tw_oT tw_oR M a b c)) → 2001 - y < (n : Int) → Q 57 [(5, (0, 0, 0, 2001, y)), (3, (0, 0, 0, 360, c)), (0, (2, 60, 0, 0, 0))] [] M1 := by
    intro n
    induction n with
    | zero => intro y M1 h1 h2 hc hl hN hS hms; clear hN hS; omega
    | succ n ih =>
      intro y M1 h1 h2 hc hl hN hS hms
      refine hgo.1 51 [57] 57 _ _ _ ?_
      refine And.intro ?_ ?_
      · intro (c1 : 2000 < y)
        show post (some (0, 0, (-6), (-6), (-6))) M1
        exact k _ _ ⟨_, _, _, rfl, hS _ (Or.inr ⟨fun z z0 z1 => hN z z0 (by omega), rfl⟩)⟩ hc
      · intro (c1 : y ≤ 2000)
        show xa_C xm_I A h0 _ 56 [(1, 0, (-4000000000000), 4000000000000, M1 60 50)] M1 _
        refine ct_absb 4000000000000 (by decide) (by decide) (by decide) (fun a2 ea2 => ?_)
        refine And.intro (show 0 < (M1 60 51) by omega) ?_
        refine And.intro ?_ ?_
        · intro (c3 : c < (((a2 * y) * 360) / (M1 60 51)))
          show post (some (0, 0, 0, 2001, y)) M1
          exact k _ _ ⟨_, _, _, rfl, hS _ (Or.inl ⟨y, h1, by omega, tw_dv1 hl (by rw [← Int.mul_right_comm, ← ea2]; exact c3), hN, rfl⟩)⟩ hc
        · intro (c3 : (((a2 * y) * 360) / (M1 60 51)) ≤ c)
          show xa_C xm_I A h0 _ 56 [(1, 0, (-4000000000000), 4000000000000, M1 60 50)] M1 _
          refine ct_absb 4000000000000 (by decide) (by decide) (by decide) (fun a4 ea4 => ?_)
          refine And.intro (show 0 < (M1 60 51) by omega) ?_
          refine And.intro ?_ ?_
          · intro (c5 : ¬ (((a4 * y) * 360) / (M1 60 51)) = c)
            show Q 57 [(5, (0, 0, 1, 2002, y + 1)), (3, (0, 0, 0, 360, c)), (0, (2, 60, 0, 0, 0))] [] M1
            refine hgo.2.1 57 _ [(5, (0, 0, 0, 2001, y + 1)), (3, (0, 0, 0, 360, c)), (0, (2, 60, 0, 0, 0))] _ _ (xa_subI rfl rfl (fun _ _ _ _ => by omega) (xa_subI rfl rfl (fun _ _ _ _ => by omega) (xa_subR rfl xa_sub0))) ?_
            exact ih (y + 1) M1 (by omega) (by omega) hc hl (fun z z0 z1 => by
              by_cases e : z = y
              · rw [e]
                exact tw_dn1 hl (by rw [← Int.mul_right_comm, ← ea4]; rw [ea2, ← ea4] at c3; exact c3) (by rw [← Int.mul_right_comm, ← ea4]; exact c5)
              · exact hN z z0 (by omega)) hS (by omega)
          · intro (c5 : (((a4 * y) * 360) / (M1 60 51)) = c)
            show xa_C xm_I A h0 _ 56 [(1, 0, (-4000000000000), 4000000000000, M1 60 50)] M1 _
            refine ct_absb 4000000000000 (by decide) (by decide) (by decide) (fun a6 ea6 => ?_)
            refine And.intro (show 0 < (M1 60 51) by omega) ?_
            refine And.intro ?_ ?_
            · intro (c7 : (((a6 * y) * 360) % (M1 60 51)) ≤ 0)
              show Q 57 [(5, (0, 0, 1, 2002, y + 1)), (3, (0, 0, 0, 360, c)), (0, (2, 60, 0, 0, 0))] [] M1
              refine hgo.2.1 57 _ [(5, (0, 0, 0, 2001, y + 1)), (3, (0, 0, 0, 360, c)), (0, (2, 60, 0, 0, 0))] _ _ (xa_subI rfl rfl (fun _ _ _ _ => by omega) (xa_subI rfl rfl (fun _ _ _ _ => by omega) (xa_subR rfl xa_sub0))) ?_
              exact ih (y + 1) M1 (by omega) (by omega) hc hl (fun z z0 z1 => by
                by_cases e : z = y
                · rw [e]
                  exact tw_dn2 (by rw [← Int.mul_right_comm, ← ea4]; exact c5) (by rw [← Int.mul_right_comm, ← ea6]; exact c7)
                · exact hN z z0 (by omega)) hS (by omega)
            · intro (c7 : 0 < (((a6 * y) * 360) % (M1 60 51)))
              show post (some (0, 0, 0, 2001, y)) M1
              exact k _ _ ⟨_, _, _, rfl, hS _ (Or.inl ⟨y, h1, by omega, tw_dv2 (by rw [← Int.mul_right_comm, ← ea4]; exact c5) (by rw [← Int.mul_right_comm, ← ea6]; exact c7), hN, rfl⟩)⟩ hc
  refine hgo.1 21 [33] 0 _ _ _ ?_
  show xa_C xm_I A h0 _ 215 [(0, 0, (-2147483648), 2147483647, a)] (xa_up M 60 21 0) _
  refine ct_isAxle ?_ ?_
  · intro (i1 : 0 ≤ a ∧ a ≤ 9)
    show xa_C xm_I A h0 _ 239 [(2, 60, 0, 0, 0), (0, 0, (-2147483648), 2147483647, b)] (xa_up M 60 21 0) _
    refine ct_isPeriod ?_ ?_
    · intro (i2 : 0 ≤ b ∧ b < (M 60 11))
      show xa_C xm_I A h0 _ 214 [(0, 0, (-2147483648), 2147483647, c), (0, 0, 0, 0, 0), (0, 0, 360, 360, 360)] (xa_up M 60 21 0) _
      refine ct_in ?_ ?_
      · intro (i3 : 0 ≤ c ∧ c ≤ 360)
        show Q 33 [(0, (2, 60, 0, 0, 0)), (1, (0, 0, (-2147483648), 2147483647, a)), (2, (0, 0, (-2147483648), 2147483647, b)), (3, (0, 0, (-2147483648), 2147483647, c))] [] (xa_up M 60 21 0)
        refine hgo.2.1 33 _ [(0, (2, 60, 0, 0, 0)), (1, (0, 0, 0, 9, a)), (2, (0, 0, 0, 7, b)), (3, (0, 0, 0, 360, c))] _ _ (xa_subR rfl (xa_subI rfl rfl (fun _ _ _ _ => by omega) (xa_subI rfl rfl (fun _ _ _ _ => by omega) (xa_subI rfl rfl (fun _ _ _ _ => by omega) xa_sub0)))) ?_
        refine hgo.1 17 [57] 33 _ _ _ ?_
        show xa_C xm_I A h0 _ 273 [(2, 60, 0, 0, 0), (0, 0, 0, 9, a)] (xa_up M 60 21 0) _
        refine xa_C_mok (xw_ct_fairStateF (xw_Inv_cor (xw_cor_f (by omega) xw_cor_r) hI) (by omega) (by omega) (fun v104 w104 M104 hc104 hT104 hF104 hw104 hv104 hs104 hM104 => ?_))
        refine And.intro ?_ ?_
        · intro (c105 : 0 ≤ v104)
          show xa_C xm_I A h0 _ 276 [(2, 60, 0, 0, 0), (0, 0, 0, 9, a), (0, 0, 0, 7, b)] M104 _
          refine ct_findGapF (by omega) (by omega) (by omega) (by omega) (by omega) (by omega) (by rw [xw_corq (xw_cor_t (xw_cor_f (by omega) xw_cor_r) hc104) 71 rfl]; exact (hI.2.2.1 _ (by omega) (by omega)).2) (fun u106 l106 eu106 el106 bu106 bl106 => ?_)
          have hc4 := xw_cor_t (xw_cor_f (M := M) (j := 21) (v := 0) (by omega) xw_cor_r) hc104
          have hf4 := tw_s5 hs104 (by omega) (by omega)
          have eg4 : u106 = tw_gp M a b M104 := by
            unfold tw_gp
            rw [eu106, xw_corq hc4 71 rfl b, xw_corq hc4 70 rfl b]
          have el4 : l106 = M104 76 a * M 71 b := by
            rw [el106, xw_corq hc4 71 rfl b]
          show Q 57 [(5, (0, 0, 0, 0, 0)), (4, (0, 0, (-5), 0, v104)), (0, (2, 60, 0, 0, 0)), (1, (0, 0, 0, 9, a)), (2, (0, 0, 0, 7, b)), (3, (0, 0, 0, 360, c))] [] (xa_up (xa_up M104 60 50 u106) 60 51 l106)
          refine hgo.2.1 57 _ [(5, (0, 0, 0, 2001, 0)), (3, (0, 0, 0, 360, c)), (0, (2, 60, 0, 0, 0))] _ _ (xa_subI rfl rfl (fun _ _ _ _ => by omega) (xa_subI rfl rfl (fun _ _ _ _ => by omega) (xa_subR rfl xa_sub0))) ?_
          have n6 := (hv104 c105).2.2.1
          have e50 : (xa_up (xa_up M104 60 50 u106) 60 51 l106) 60 50 = u106 := (xa_up_ne (by omega)).trans xa_up_eq
          have e51 : (xa_up (xa_up M104 60 50 u106) 60 51 l106) 60 51 = l106 := xa_up_eq
          exact loop 2002 0 (xa_up (xa_up M104 60 50 u106) 60 51 l106) (by omega) (by omega) (xw_cor_f (by omega) (xw_cor_f (by omega) (xw_cor_t (xw_cor_f (by omega) xw_cor_r) hc104))) (by rw [e51]; omega) (fun z z0 z1 => by omega) (fun v h => by
            rw [e50, e51, eg4, el4, Int.mul_comm c] at h
            exact Or.inr ⟨⟨i2, i3⟩, Or.inr ⟨i1, w104, M104, ⟨_, xm_cor_f (by omega) xm_cor_r, hF104⟩, Or.inr (Or.inr ⟨by omega, by omega, Or.inr ⟨tw_f0 hf4 c105, n6, h⟩⟩)⟩⟩) (by omega)
        · intro (c105 : v104 < 0)
          show post (some (0, 0, (-5), 0, v104)) M104
          exact k _ _ ⟨_, _, _, rfl, Or.inr ⟨⟨i2, i3⟩, Or.inr ⟨i1, w104, M104, ⟨_, xm_cor_f (by omega) xm_cor_r, hF104⟩, tw_s6 hs104 c105 (fun h => Or.inl ⟨h, rfl⟩)⟩⟩⟩ (xw_cor_t (xw_cor_f (by omega) xw_cor_r) hc104)
      · intro (i3 : ¬ (0 ≤ c ∧ c ≤ 360))
        show post (some (0, 0, (-1), (-1), (-1))) (xa_up M 60 21 0)
        exact k _ _ ⟨_, _, _, rfl, Or.inl ⟨fun h => i3 h.2, rfl⟩⟩ (xw_cor_f (by omega) xw_cor_r)
    · intro (i2 : ¬ (0 ≤ b ∧ b < (M 60 11)))
      show post (some (0, 0, (-1), (-1), (-1))) (xa_up M 60 21 0)
      exact k _ _ ⟨_, _, _, rfl, Or.inl ⟨fun h => i2 h.1, rfl⟩⟩ (xw_cor_f (by omega) xw_cor_r)
  · intro (i1 : ¬ (0 ≤ a ∧ a ≤ 9))
    show post (some (0, 0, (-1), (-1), (-1))) (xa_up M 60 21 0)
    exact k _ _ ⟨_, _, _, rfl, tw_Pn i1⟩ (xw_cor_f (by omega) xw_cor_r)
