-- findWay of the reference, its roles and wheels told
set_option maxRecDepth 20000
theorem ct_findWayG {A : Nat → Nat} {h0 : g_H} {d : Nat} {M : xa_M} {post : Option xa_V → xa_M → Prop} {l1 u1 : Int} {x1 : Int} (hI : xm_Inv M) (hx0 : 0 ≤ x1) (hx1 : x1 ≤ 9) (k : ∀ (r : Int) (M1 : xa_M), (r = 0 ∨ r = 1) → xm_cor M M1 → (r = 1 → xm_way M1) → wv_Q M x1 M1 r → post (some (0, 0, 0, 1, r)) M1) : xa_C xm_I A h0 (d + 2) 236 [(2, 60, 0, 0, 0), (0, 0, l1, u1, x1)] M post := by
  refine xa_C_arg [(2, 60, 0, 0, 0), (0, 0, 0, 9, x1)] (xa_svR (xa_svI (fun _ _ _ _ => by omega) xa_sv0)) (xa_C_wk ?_)
  refine xa_meth (Q0 := (11, 2, false, 0, 0, 12)) (by decide +kernel) ⟨rfl, rfl⟩ (full := s_c_236) rfl rfl ?_
  intro hM hv Q hgo
  have hX : 0 ≤ x1 ∧ x1 ≤ 9 := ⟨hx0, hx1⟩
  have hAB : ∀ i, 0 ≤ i → i < M 60 6 → (0 ≤ xw_A M i ∧ xw_A M i < 10) ∧ (0 ≤ xw_B M i ∧ xw_B M i < 10) := fun i i0 i1 => by
    have := xm_msh hM hI i0 i1
    exact ⟨⟨this.2.2.1.1, by show M 64 (M 66 i) < 10; omega⟩, ⟨this.2.2.2.1.1, by show M 64 (M 67 i) < 10; omega⟩⟩
  have loop6 : ∀ (n : Nat) (x4 : Int) (M1 : xa_M), 0 ≤ x4 ∧ x4 ≤ 14 → xm_cor M M1 → M1 60 32 ≤ x4 → (∀ i, 0 ≤ i → i < M1 60 32 → M1 80 i < M1 60 0) → wv_D M x1 M1 → (x4 ≤ M1 60 0 ∧ wv_W M1 x4) → 14 - x4 < (n : Int) → Q 421 [(4, (0, 0, 0, 14, x4)), (2, (2, 82, 0, 0, 0)), (1, (0, 0, 0, 9, x1)), (0, (2, 60, 0, 0, 0))] [] M1 := by
    intro n
    induction n with
    | zero => intro x4 M1 b4 hc hk hwy hD hW9 hms; clear hD hW9; omega
    | succ n ih6 =>
      intro x4 M1 b4 hc hk hwy hD hW9 hms6
      obtain ⟨hD9, hD9e⟩ : ∃ P : Prop, P = wv_D M x1 M1 := ⟨_, rfl⟩
      rw [← hD9e] at hD
      refine hgo.2.2 _ _ _ _ (fun hM1 _ => ?_)
      have b32 := xm_f32 hM1
      have b0 := xm_f0 hM1
      refine hgo.1 36 [2, 33, 41, 169, 194, 205, 421, 349, 365, 381] 421 _ _ _ ?_
      refine And.intro ?_ ?_
      · intro (c1 : (M1 60 0) ≤ x4)
        show xa_wk post (some (0, 0, 1, 1, 1)) M1
        rw [hD9e] at hD
        exact xa_wkI 1 rfl (fun _ _ => by decide) (k 1 _ (Or.inr rfl) hc (fun _ => hwy) ⟨hD.1, Or.inl ⟨rfl, hD, (show M 60 0 = x4 by have e0 := xm_corf hc 0 (by omega); omega) ▸ hW9.2⟩⟩)
      · intro (c1 : x4 < (M1 60 0))
        refine And.intro (show 0 ≤ x4 ∧ x4 < 14 by omega) ?_
        refine And.intro ?_ ?_
        · intro (c2 : ¬ (M1 83 x4) = 0)
          refine And.intro (show 0 ≤ (M1 60 32) ∧ (M1 60 32) < 14 by omega) ?_
          refine And.intro (show 0 ≤ x4 ∧ x4 ≤ 13 by omega) ?_
          refine And.intro (show 0 ≤ x4 ∧ x4 < 14 by omega) ?_
          refine And.intro (show 0 ≤ (M1 60 32) ∧ (M1 60 32) < 14 by omega) ?_
          refine And.intro (show 0 ≤ ((M1 60 32) + 1) ∧ ((M1 60 32) + 1) ≤ 14 by omega) ?_
          show Q 421 [(4, (0, 0, 1, 15, x4 + 1)), (2, (2, 82, 0, 0, 0)), (1, (0, 0, 0, 9, x1)), (0, (2, 60, 0, 0, 0))] [] (xa_up (xa_up (xa_up M1 80 (M1 60 32) x4) 81 (M1 60 32) (M1 82 x4)) 60 32 ((M1 60 32) + 1))
          refine hgo.2.1 421 _ [(4, (0, 0, 0, 14, x4 + 1)), (2, (2, 82, 0, 0, 0)), (1, (0, 0, 0, 9, x1)), (0, (2, 60, 0, 0, 0))] _ _ (xa_subI rfl rfl (fun _ _ _ _ => by omega) (xa_subR rfl (xa_subI rfl rfl (fun _ _ _ _ => by omega) (xa_subR rfl xa_sub0)))) ?_
          exact ih6 (x4 + 1) (xa_up (xa_up (xa_up M1 80 (M1 60 32) x4) 81 (M1 60 32) (M1 82 x4)) 60 32 ((M1 60 32) + 1)) (by omega) (xm_cor_f (by omega) (xm_cor_a rfl (xm_cor_a rfl hc))) (by first | omega | (simp [xa_up]; done) | (simp [xa_up]; omega)) (fun i i0 i1 => by simp [xa_up] at i1 ⊢; by_cases e : i = M1 60 32; (rw [if_pos e]; omega); (rw [if_neg e]; exact hwy i i0 (by omega))) (wv_D_k (fun j => (xa_up_ne (fun e => absurd e.1 (by decide))).trans ((xa_up_ne (fun e => absurd e.1 (by decide))).trans (xa_up_ne (fun e => absurd e.1 (by decide))))) (fun j => (xa_up_ne (fun e => absurd e.1 (by decide))).trans ((xa_up_ne (fun e => absurd e.1 (by decide))).trans (xa_up_ne (fun e => absurd e.1 (by decide))))) ((xa_up_ne (by omega)).trans ((xa_up_ne (by omega)).trans (xa_up_ne (by omega)))) (fun j => (xa_up_ne (fun e => absurd e.1 (by decide))).trans ((xa_up_ne (fun e => absurd e.1 (by decide))).trans (xa_up_ne (fun e => absurd e.1 (by decide))))) (fun j => (xa_up_ne (fun e => absurd e.1 (by decide))).trans ((xa_up_ne (fun e => absurd e.1 (by decide))).trans (xa_up_ne (fun e => absurd e.1 (by decide))))) (hD9e ▸ hD)) ⟨(show x4 + 1 ≤ xa_up (xa_up (xa_up M1 80 (M1 60 32) x4) 81 (M1 60 32) (M1 82 x4)) 60 32 ((M1 60 32) + 1) 60 0 from by rw [xa_up_ne (by omega), xa_up_ne (by omega), xa_up_ne (by omega)]; omega), (wv_Wy b4.1 (by omega) (wv_b01 ((hD9e ▸ hD) : wv_D M x1 M1)) hW9.2 c2 xa_up_eq (fun j => by
            rw [xa_up_ne (fun e => absurd e.1 (by decide)), xa_up_ne (fun e => absurd e.1 (by decide))]
            by_cases e : j = M1 60 32
            · rw [e, if_pos rfl]
              exact xa_up_eq
            · rw [if_neg e]
              exact xa_up_ne (fun h => e h.2)) (fun j => by
            rw [xa_up_ne (fun e => absurd e.1 (by decide))]
            by_cases e : j = M1 60 32
            · rw [e, if_pos rfl]
              exact xa_up_eq
            · rw [if_neg e]
              exact (xa_up_ne (fun h => e h.2)).trans (xa_up_ne (fun h => absurd h.1 (by decide)))) (fun j => (xa_up_ne (fun e => absurd e.1 (by decide))).trans ((xa_up_ne (fun e => absurd e.1 (by decide))).trans (xa_up_ne (fun e => absurd e.1 (by decide))))) (fun j => (xa_up_ne (fun e => absurd e.1 (by decide))).trans ((xa_up_ne (fun e => absurd e.1 (by decide))).trans (xa_up_ne (fun e => absurd e.1 (by decide))))))⟩ (by omega)
        · intro (c2 : (M1 83 x4) = 0)
          show Q 421 [(4, (0, 0, 1, 15, x4 + 1)), (2, (2, 82, 0, 0, 0)), (1, (0, 0, 0, 9, x1)), (0, (2, 60, 0, 0, 0))] [] M1
          refine hgo.2.1 421 _ [(4, (0, 0, 0, 14, x4 + 1)), (2, (2, 82, 0, 0, 0)), (1, (0, 0, 0, 9, x1)), (0, (2, 60, 0, 0, 0))] _ _ (xa_subI rfl rfl (fun _ _ _ _ => by omega) (xa_subR rfl (xa_subI rfl rfl (fun _ _ _ _ => by omega) (xa_subR rfl xa_sub0)))) ?_
          exact ih6 (x4 + 1) M1 (by omega) hc (by first | omega | (simp [xa_up]; done) | (simp [xa_up]; omega)) (by first | exact hwy | (intro i i0 i1; have h0 := h32; omega)) (hD9e ▸ hD) ⟨by omega, wv_Wn b4.1 hW9.2 c2⟩ (by omega)
  have loop4 : ∀ (n : Nat) (x3 : Int) (M1 : xa_M), 0 ≤ x3 ∧ x3 ≤ 9 → xm_cor M M1 → xw_G M x1 M1 → M1 60 29 + M1 78 x3 ≤ 10 → M1 60 32 = 0 → 0 ≤ M1 78 x3 → wv_P M x1 M1 x3 → M1 78 x3 < (n : Int) → Q 194 [(3, (0, 0, 0, 9, x3)), (2, (2, 82, 0, 0, 0)), (1, (0, 0, 0, 9, x1)), (0, (2, 60, 0, 0, 0))] [] M1 := by
    intro n
    induction n with
    | zero => intro x3 M1 b3 hc hG h29 h32 h78 hP hms; clear hP; omega
    | succ n ih4 =>
      intro x3 M1 b3 hc hG h29 h32 h78 hP hms4
      obtain ⟨hP9, hP9e⟩ : ∃ P : Prop, P = wv_P M x1 M1 x3 := ⟨_, rfl⟩
      rw [← hP9e] at hP
      refine hgo.2.2 _ _ _ _ (fun hM1 _ => ?_)
      have b29 := xm_f29 hM1
      have t78 := xm_t78 hM1 x3 (by omega) (by omega)
      have hgx := fun h : ¬ x3 = x1 => (hG.2.2 x3 (by omega) (by omega) (by omega)).2 h
      obtain ⟨e, he⟩ : ∃ e, e = M1 78 x3 := ⟨_, rfl⟩
      have loop5 : ∀ (n : Nat) (x5 x4 : Int) (M1 : xa_M), 0 ≤ x5 ∧ x5 ≤ 16 → (-1) ≤ x4 ∧ x4 ≤ 9 → xm_cor M M1 → xw_G M x1 M1 → M1 78 x3 = e → M1 60 32 = 0 → (x4 = -1 → M1 60 29 + M1 78 x3 ≤ 10) → (0 ≤ x4 → M1 78 x4 = M1 78 x3 - 1 ∧ M1 60 29 + M1 78 x4 ≤ 10) → (x4 = -1 → xw_E M x3 M1 x5) → (x4 = -1 → wv_P M x1 M1 x3 ∧ ∀ i, 0 ≤ i → i < x5 → ¬ wp_c (M 64) (M 66) (M 67) (M1 78) x3 (M1 78 x3) i) → (0 ≤ x4 → wv_P M x1 M1 x4) → 16 - x5 < (n : Int) → Q 205 [(5, (0, 0, 0, 16, x5)), (4, (0, 0, (-1), 9, x4)), (3, (0, 0, 0, 9, x3)), (2, (2, 82, 0, 0, 0)), (1, (0, 0, 0, 9, x1)), (0, (2, 60, 0, 0, 0))] [] M1 := by
        intro n
        induction n with
        | zero => intro x5 x4 M1 b5 b4 hc hG hex h32 h29 hnx hE hPn hPy hms; clear hPn hPy; omega
        | succ n ih5 =>
          intro x5 x4 M1 b5 b4 hc hG hex h32 h29 hnx hE hPn hPy hms5
          obtain ⟨hPn9, hPn9e⟩ : ∃ P : Prop, P = (x4 = -1 → wv_P M x1 M1 x3 ∧ ∀ i, 0 ≤ i → i < x5 → ¬ wp_c (M 64) (M 66) (M 67) (M1 78) x3 (M1 78 x3) i) := ⟨_, rfl⟩
          rw [← hPn9e] at hPn
          obtain ⟨hPy9, hPy9e⟩ : ∃ P : Prop, P = wv_P M x1 M1 x4 := ⟨_, rfl⟩
          rw [← hPy9e] at hPy
          refine hgo.2.2 _ _ _ _ (fun hM1 _ => ?_)
          have b6 := xm_f6 hM1
          have e6 := xm_corf hc 6 (by omega)
          have e66 := xm_corq hc 66 rfl x5
          have e67 := xm_corq hc 67 rfl x5
          have eA : xw_A M x5 = M1 64 (M1 66 x5) := by rw [e66]; exact (xm_corq hc 64 rfl _).symm
          have eB : xw_B M x5 = M1 64 (M1 67 x5) := by rw [e67]; exact (xm_corq hc 64 rfl _).symm
          have hms := fun h : x5 < M1 60 6 => xm_msh hM1 (xm_Inv_cor hc hI) (by omega) h
          have b29 := xm_f29 hM1
          have t78 := xm_t78 hM1 x3 (by omega) (by omega)
          have t784 := fun h : 0 ≤ x4 => xm_t78 hM1 x4 h (by omega)
          have hEi := fun h : x4 = -1 => xw_E_i (hE h)
          have tA : x5 < M1 60 6 → 0 ≤ M1 78 (M1 64 (M1 66 x5)) := fun h => (xm_t78 hM1 _ (hms h).2.2.1.1 (by have := hms h; omega)).1
          have tB : x5 < M1 60 6 → 0 ≤ M1 78 (M1 64 (M1 67 x5)) := fun h => (xm_t78 hM1 _ (hms h).2.2.2.1.1 (by have := hms h; omega)).1
          have gA : M1 64 (M1 66 x5) = x3 → M1 78 (M1 64 (M1 66 x5)) = M1 78 x3 := fun h => by rw [h]
          have gB : M1 64 (M1 67 x5) = x3 → M1 78 (M1 64 (M1 67 x5)) = M1 78 x3 := fun h => by rw [h]
          have key381 : ∀ (x8 : Int) (M2 : xa_M), 0 ≤ x8 ∧ x8 ≤ 9 → M1 78 x8 = M1 78 x3 - 1 → x4 = -1 → x5 < M1 60 6 → xm_cor M M2 → (∀ j, M2 78 j = M1 78 j) → M2 60 29 = M1 60 29 → M2 60 32 = 0 → (∀ j, M2 79 j = M1 79 j) → (∃ dr dn, wp_S (M 60 6) (M 64) (M 66) (M 67) (M1 78) x3 (M1 78 x3) x5 dr dn ∧ x8 = M 64 dn ∧ (∀ w : Int, M2 82 w = M1 82 w + (if dr = w then 1 else 0) - (if dn = w then 1 else 0)) ∧ ∀ w : Int, (w = dr ∨ w = dn → M2 83 w = 1) ∧ (¬ (w = dr ∨ w = dn) → M2 83 w = M1 83 w)) → Q 381 [(8, (0, 0, 0, 9, x8)), (5, (0, 0, 0, 15, x5)), (3, (0, 0, 0, 9, x3)), (2, (2, 82, 0, 0, 0)), (1, (0, 0, 0, 9, x1)), (0, (2, 60, 0, 0, 0))] [] M2 := by
            intro x8 M2 h8 h788 h4 h5 hc2 hj2 h292 h322 hj79 hS
            have hNP : wv_P M x1 (xa_up (xa_up M2 79 (M2 60 29) x5) 60 29 ((M2 60 29) + 1)) x8 := by
              rw [hPn9e] at hPn
              obtain ⟨dr, dn, s1, s2, s3, s4⟩ := hS
              exact wv_P_s (hPn h4).1 b29.1 s1 s2 h788 (fun j => (xa_up_ne (fun e => absurd e.1 (by decide))).trans ((xa_up_ne (fun e => absurd e.1 (by decide))).trans (hj2 j))) (xa_up_eq.trans (by rw [h292])) ((xa_up_ne (fun e => absurd e.1 (by decide))).trans (by rw [← h292]; exact xa_up_eq)) (fun j hj => (xa_up_ne (fun e => absurd e.1 (by decide))).trans ((xa_up_ne (fun e => hj (e.2.trans h292))).trans (hj79 j))) (fun w => (xa_up_ne (fun e => absurd e.1 (by decide))).trans ((xa_up_ne (fun e => absurd e.1 (by decide))).trans (s3 w))) (fun w => ⟨fun q => (xa_up_ne (fun e => absurd e.1 (by decide))).trans ((xa_up_ne (fun e => absurd e.1 (by decide))).trans ((s4 w).1 q)), fun q => (xa_up_ne (fun e => absurd e.1 (by decide))).trans ((xa_up_ne (fun e => absurd e.1 (by decide))).trans ((s4 w).2 q))⟩)
            clear hS
            have hG2 := xw_G_j hj2 hG
            have j8 := hj2 x8
            have j3 := hj2 x3
            have t8 := (xm_t78 hM1 x8 (by omega) (by omega)).1
            refine hgo.1 21 [2, 33, 41, 169, 194, 205, 421, 349, 365, 381] 381 _ _ _ ?_
            refine And.intro (show 0 ≤ (M2 60 29) ∧ (M2 60 29) < 10 by omega) ?_
            refine And.intro (show 0 ≤ ((M2 60 29) + 1) ∧ ((M2 60 29) + 1) ≤ 10 by omega) ?_
            show Q 205 [(5, (0, 0, 1, 16, x5 + 1)), (4, (0, 0, 0, 9, x8)), (8, (0, 0, 0, 9, x8)), (3, (0, 0, 0, 9, x3)), (2, (2, 82, 0, 0, 0)), (1, (0, 0, 0, 9, x1)), (0, (2, 60, 0, 0, 0))] [] (xa_up (xa_up M2 79 (M2 60 29) x5) 60 29 ((M2 60 29) + 1))
            refine hgo.2.1 205 _ [(5, (0, 0, 0, 16, x5 + 1)), (4, (0, 0, (-1), 9, x8)), (3, (0, 0, 0, 9, x3)), (2, (2, 82, 0, 0, 0)), (1, (0, 0, 0, 9, x1)), (0, (2, 60, 0, 0, 0))] _ _ (xa_subI rfl rfl (fun _ _ _ _ => by omega) (xa_subI rfl rfl (fun _ _ _ _ => by omega) (xa_subI rfl rfl (fun _ _ _ _ => by omega) (xa_subR rfl (xa_subI rfl rfl (fun _ _ _ _ => by omega) (xa_subR rfl xa_sub0)))))) ?_
            exact ih5 (x5 + 1) x8 (xa_up (xa_up M2 79 (M2 60 29) x5) 60 29 ((M2 60 29) + 1)) (by omega) (by omega) (xm_cor_f (by omega) (xm_cor_a rfl hc2)) (by first | exact (xw_G_u (by decide) (xw_G_u (by decide) hG2)) | assumption) (by first | omega | (simp [xa_up]; done) | (simp [xa_up]; omega)) (by first | omega | (simp [xa_up]; done) | (simp [xa_up]; omega)) (by first | omega | (intro h; simp [xa_up]; omega)) (by first | omega | (intro h; simp [xa_up]; omega)) (fun h => by omega) (fun h => by omega) (fun _ => hNP) (by omega)
          have key365 : ∀ (x8 x9 x10 : Int) (M2 : xa_M), 0 ≤ x9 ∧ x9 ≤ 13 → 0 ≤ x10 ∧ x10 ≤ 13 → 0 ≤ x8 ∧ x8 ≤ 9 → M1 78 x8 = M1 78 x3 - 1 → x4 = -1 → x5 < M1 60 6 → xm_cor M M2 → (∀ j, M2 78 j = M1 78 j) → M2 60 29 = M1 60 29 → M2 60 32 = 0 → (∀ j, M2 79 j = M1 79 j) → (wp_S (M 60 6) (M 64) (M 66) (M 67) (M1 78) x3 (M1 78 x3) x5 x9 x10 ∧ x8 = M 64 x10 ∧ (∀ w : Int, M2 82 w = M1 82 w + (if x9 = w then 1 else 0) - (if x10 = w then 1 else 0)) ∧ ∀ w : Int, M2 83 w = M1 83 w) → Q 365 [(10, (0, 0, 0, 13, x10)), (9, (0, 0, 0, 13, x9)), (8, (0, 0, 0, 9, x8)), (5, (0, 0, 0, 15, x5)), (3, (0, 0, 0, 9, x3)), (2, (2, 82, 0, 0, 0)), (1, (0, 0, 0, 9, x1)), (0, (2, 60, 0, 0, 0))] [] M2 := by
            intro x8 x9 x10 M2 h9 h10 h8 h788 h4 h5 hc2 hj2 h292 h322 hj79 hS
            refine hgo.1 15 [2, 33, 41, 169, 194, 205, 421, 349, 365, 381] 365 _ _ _ ?_
            show Q 381 [(10, (0, 0, 0, 13, x10)), (9, (0, 0, 0, 13, x9)), (8, (0, 0, 0, 9, x8)), (5, (0, 0, 0, 15, x5)), (3, (0, 0, 0, 9, x3)), (2, (2, 82, 0, 0, 0)), (1, (0, 0, 0, 9, x1)), (0, (2, 60, 0, 0, 0))] [] (xa_up (xa_up M2 83 x9 1) 83 x10 1)
            refine hgo.2.1 381 _ [(8, (0, 0, 0, 9, x8)), (5, (0, 0, 0, 15, x5)), (3, (0, 0, 0, 9, x3)), (2, (2, 82, 0, 0, 0)), (1, (0, 0, 0, 9, x1)), (0, (2, 60, 0, 0, 0))] _ _ (xa_subI rfl rfl (fun _ _ _ _ => by omega) (xa_subI rfl rfl (fun _ _ _ _ => by omega) (xa_subI rfl rfl (fun _ _ _ _ => by omega) (xa_subR rfl (xa_subI rfl rfl (fun _ _ _ _ => by omega) (xa_subR rfl xa_sub0)))))) ?_
            exact key381 x8 (xa_up (xa_up M2 83 x9 1) 83 x10 1) h8 h788 h4 h5 (xm_cor_a rfl (xm_cor_a rfl hc2)) (fun j => by simp [xa_up, hj2]) (by simp [xa_up, h292]) (by simp [xa_up, h322]) (fun j => by simp [xa_up, hj79]) ⟨x9, x10, hS.1, hS.2.1, fun w => (xa_up_ne (fun e => absurd e.1 (by decide))).trans ((xa_up_ne (fun e => absurd e.1 (by decide))).trans (hS.2.2.1 w)), fun w => ⟨fun q => by
              by_cases e : w = x10
              · rw [e]
                exact xa_up_eq
              · rw [xa_up_ne (fun h => e h.2), show w = x9 by omega]
                exact xa_up_eq, fun q => (xa_up_ne (fun h => q (Or.inr h.2))).trans ((xa_up_ne (fun h => q (Or.inl h.2))).trans (hS.2.2.2 w))⟩⟩
          have key349 : ∀ (x8 x9 x10 : Int), 0 ≤ x9 ∧ x9 ≤ 13 → 0 ≤ x10 ∧ x10 ≤ 13 → 0 ≤ x8 ∧ x8 ≤ 9 → M1 78 x8 = M1 78 x3 - 1 → x4 = -1 → x5 < M1 60 6 → (wp_S (M 60 6) (M 64) (M 66) (M 67) (M1 78) x3 (M1 78 x3) x5 x9 x10 ∧ x8 = M 64 x10) → Q 349 [(10, (0, 0, 0, 13, x10)), (9, (0, 0, 0, 13, x9)), (8, (0, 0, 0, 9, x8)), (5, (0, 0, 0, 15, x5)), (3, (0, 0, 0, 9, x3)), (2, (2, 82, 0, 0, 0)), (1, (0, 0, 0, 9, x1)), (0, (2, 60, 0, 0, 0))] [] M1 := by
            intro x8 x9 x10 h9 h10 h8 h788 h4 h5 hS
            refine hgo.1 19 [2, 33, 41, 169, 194, 205, 421, 349, 365, 381] 349 _ _ _ ?_
            show Q 365 [(10, (0, 0, 0, 13, x10)), (9, (0, 0, 0, 13, x9)), (8, (0, 0, 0, 9, x8)), (5, (0, 0, 0, 15, x5)), (3, (0, 0, 0, 9, x3)), (2, (2, 82, 0, 0, 0)), (1, (0, 0, 0, 9, x1)), (0, (2, 60, 0, 0, 0))] [] (xa_up (xa_up M1 82 x9 (xa_w32 ((M1 82 x9) + 1))) 82 x10 (xa_w32 (((xa_up M1 82 x9 (xa_w32 ((M1 82 x9) + 1))) 82 x10) - 1)))
            refine hgo.2.1 365 _ [(10, (0, 0, 0, 13, x10)), (9, (0, 0, 0, 13, x9)), (8, (0, 0, 0, 9, x8)), (5, (0, 0, 0, 15, x5)), (3, (0, 0, 0, 9, x3)), (2, (2, 82, 0, 0, 0)), (1, (0, 0, 0, 9, x1)), (0, (2, 60, 0, 0, 0))] _ _ (xa_subI rfl rfl (fun _ _ _ _ => by omega) (xa_subI rfl rfl (fun _ _ _ _ => by omega) (xa_subI rfl rfl (fun _ _ _ _ => by omega) (xa_subI rfl rfl (fun _ _ _ _ => by omega) (xa_subI rfl rfl (fun _ _ _ _ => by omega) (xa_subR rfl (xa_subI rfl rfl (fun _ _ _ _ => by omega) (xa_subR rfl xa_sub0)))))))) ?_
            have hb9 := wv_b (X := x1) (x := x3) ((by rw [hPn9e] at hPn; exact (hPn h4).1) : wv_P M x1 M1 x3) b29.1 (by omega)
            refine key365 x8 x9 x10 (xa_up (xa_up M1 82 x9 (xa_w32 ((M1 82 x9) + 1))) 82 x10 (xa_w32 (((xa_up M1 82 x9 (xa_w32 ((M1 82 x9) + 1))) 82 x10) - 1))) h9 h10 h8 h788 h4 h5 (xm_cor_a rfl (xm_cor_a rfl hc)) (fun j => by simp [xa_up]) (by simp [xa_up]) (by simp [xa_up, h32]) (fun j => by simp [xa_up]) ⟨hS.1, hS.2, fun w => ?_, fun w => (xa_up_ne (fun e => absurd e.1 (by decide))).trans (xa_up_ne (fun e => absurd e.1 (by decide)))⟩
            exact wv_82 (by omega) (by omega) hb9
          refine hgo.1 69 [2, 33, 41, 169, 194, 205, 421, 349, 365, 381] 205 _ _ _ ?_
          refine And.intro ?_ ?_
          · intro (c1 : (M1 60 6) ≤ x5)
            show Q 194 [(3, (0, 0, (-1), 9, x4)), (5, (0, 0, 0, 16, x5)), (4, (0, 0, (-1), 9, x4)), (2, (2, 82, 0, 0, 0)), (1, (0, 0, 0, 9, x1)), (0, (2, 60, 0, 0, 0))] [] M1
            refine hgo.2.1 194 _ [(3, (0, 0, 0, 9, x4)), (2, (2, 82, 0, 0, 0)), (1, (0, 0, 0, 9, x1)), (0, (2, 60, 0, 0, 0))] _ _ (xa_subI rfl rfl (fun _ _ _ _ => by omega) (xa_subR rfl (xa_subI rfl rfl (fun _ _ _ _ => by omega) (xa_subR rfl xa_sub0)))) ?_
            exact ih4 x4 M1 (by omega) hc (by first | exact hG | assumption) (by first | omega | (simp [xa_up]; done) | (simp [xa_up]; omega)) (by first | omega | (simp [xa_up]; done) | (simp [xa_up]; omega)) (by omega) (hPy9e ▸ hPy (by omega)) (by omega)
          · intro (c1 : x5 < (M1 60 6))
            refine And.intro ?_ ?_
            · intro (c2 : ¬ x4 = (-1))
              show Q 194 [(3, (0, 0, (-1), 9, x4)), (5, (0, 0, 0, 16, x5)), (4, (0, 0, (-1), 9, x4)), (2, (2, 82, 0, 0, 0)), (1, (0, 0, 0, 9, x1)), (0, (2, 60, 0, 0, 0))] [] M1
              refine hgo.2.1 194 _ [(3, (0, 0, 0, 9, x4)), (2, (2, 82, 0, 0, 0)), (1, (0, 0, 0, 9, x1)), (0, (2, 60, 0, 0, 0))] _ _ (xa_subI rfl rfl (fun _ _ _ _ => by omega) (xa_subR rfl (xa_subI rfl rfl (fun _ _ _ _ => by omega) (xa_subR rfl xa_sub0)))) ?_
              exact ih4 x4 M1 (by omega) hc (by first | exact hG | assumption) (by first | omega | (simp [xa_up]; done) | (simp [xa_up]; omega)) (by first | omega | (simp [xa_up]; done) | (simp [xa_up]; omega)) (by omega) (hPy9e ▸ hPy (by omega)) (by omega)
            · intro (c2 : x4 = (-1))
              refine And.intro (show 0 ≤ x5 ∧ x5 < 16 by omega) ?_
              refine And.intro (show 0 ≤ x5 ∧ x5 < 16 by omega) ?_
              refine And.intro ?_ ?_
              · intro (c3 : (M1 64 (M1 66 x5)) = x3)
                refine And.intro ?_ ?_
                · intro (c4 : ¬ (M1 64 (M1 66 x5)) = x3)
                  refine And.intro ?_ ?_
                  · intro (c5 : (M1 78 (M1 64 (M1 66 x5))) = ((M1 78 x3) - 1))
                    refine And.intro ?_ ?_
                    · intro (c6 : ¬ (M1 64 (M1 66 x5)) = x3)
                      refine And.intro (show 0 ≤ x5 ∧ x5 < 16 by omega) ?_
                      refine And.intro ?_ ?_
                      · intro (c7 : ¬ (M1 64 (M1 66 x5)) = x3)
                        refine And.intro (show 0 ≤ x5 ∧ x5 < 16 by omega) ?_
                        show Q 349 [(10, (0, 0, 0, 13, M1 66 x5)), (9, (0, 0, 0, 13, M1 67 x5)), (8, (0, 0, 0, 9, M1 64 (M1 66 x5))), (7, (0, 0, 0, 9, M1 64 (M1 67 x5))), (6, (0, 0, 0, 9, M1 64 (M1 66 x5))), (5, (0, 0, 0, 16, x5)), (4, (0, 0, (-1), 9, x4)), (3, (0, 0, 0, 9, x3)), (2, (2, 82, 0, 0, 0)), (1, (0, 0, 0, 9, x1)), (0, (2, 60, 0, 0, 0))] [] M1
                        refine hgo.2.1 349 _ [(10, (0, 0, 0, 13, M1 66 x5)), (9, (0, 0, 0, 13, M1 67 x5)), (8, (0, 0, 0, 9, M1 64 (M1 66 x5))), (5, (0, 0, 0, 15, x5)), (3, (0, 0, 0, 9, x3)), (2, (2, 82, 0, 0, 0)), (1, (0, 0, 0, 9, x1)), (0, (2, 60, 0, 0, 0))] _ _ (xa_subI rfl rfl (fun _ _ _ _ => by omega) (xa_subI rfl rfl (fun _ _ _ _ => by omega) (xa_subI rfl rfl (fun _ _ _ _ => by omega) (xa_subI rfl rfl (fun _ _ _ _ => by omega) (xa_subI rfl rfl (fun _ _ _ _ => by omega) (xa_subR rfl (xa_subI rfl rfl (fun _ _ _ _ => by omega) (xa_subR rfl xa_sub0)))))))) ?_
                        exact key349 (M1 64 (M1 66 x5)) (M1 67 x5) (M1 66 x5) (by omega) (by omega) (by omega) (by omega) (by omega) (by omega) ⟨wr_mk (x9 := (M1 67 x5)) (x10 := (M1 66 x5)) e66 e67 eA eB (by omega) ((hPn9e ▸ hPn) (by omega)).2 (by omega) (by omega), by first | exact xm_corq hc 64 rfl _ | omega⟩
                      · intro (c7 : (M1 64 (M1 66 x5)) = x3)
                        refine And.intro (show 0 ≤ x5 ∧ x5 < 16 by omega) ?_
                        show Q 349 [(10, (0, 0, 0, 13, M1 67 x5)), (9, (0, 0, 0, 13, M1 67 x5)), (8, (0, 0, 0, 9, M1 64 (M1 66 x5))), (7, (0, 0, 0, 9, M1 64 (M1 67 x5))), (6, (0, 0, 0, 9, M1 64 (M1 66 x5))), (5, (0, 0, 0, 16, x5)), (4, (0, 0, (-1), 9, x4)), (3, (0, 0, 0, 9, x3)), (2, (2, 82, 0, 0, 0)), (1, (0, 0, 0, 9, x1)), (0, (2, 60, 0, 0, 0))] [] M1
                        refine hgo.2.1 349 _ [(10, (0, 0, 0, 13, M1 67 x5)), (9, (0, 0, 0, 13, M1 67 x5)), (8, (0, 0, 0, 9, M1 64 (M1 66 x5))), (5, (0, 0, 0, 15, x5)), (3, (0, 0, 0, 9, x3)), (2, (2, 82, 0, 0, 0)), (1, (0, 0, 0, 9, x1)), (0, (2, 60, 0, 0, 0))] _ _ (xa_subI rfl rfl (fun _ _ _ _ => by omega) (xa_subI rfl rfl (fun _ _ _ _ => by omega) (xa_subI rfl rfl (fun _ _ _ _ => by omega) (xa_subI rfl rfl (fun _ _ _ _ => by omega) (xa_subI rfl rfl (fun _ _ _ _ => by omega) (xa_subR rfl (xa_subI rfl rfl (fun _ _ _ _ => by omega) (xa_subR rfl xa_sub0)))))))) ?_
                        exact key349 (M1 64 (M1 66 x5)) (M1 67 x5) (M1 67 x5) (by omega) (by omega) (by omega) (by omega) (by omega) (by omega) ⟨wr_mk (x9 := (M1 67 x5)) (x10 := (M1 67 x5)) e66 e67 eA eB (by omega) ((hPn9e ▸ hPn) (by omega)).2 (by omega) (by omega), by first | exact xm_corq hc 64 rfl _ | omega⟩
                    · intro (c6 : (M1 64 (M1 66 x5)) = x3)
                      refine And.intro (show 0 ≤ x5 ∧ x5 < 16 by omega) ?_
                      refine And.intro ?_ ?_
                      · intro (c8 : ¬ (M1 64 (M1 66 x5)) = x3)
                        refine And.intro (show 0 ≤ x5 ∧ x5 < 16 by omega) ?_
                        show Q 349 [(10, (0, 0, 0, 13, M1 66 x5)), (9, (0, 0, 0, 13, M1 66 x5)), (8, (0, 0, 0, 9, M1 64 (M1 66 x5))), (7, (0, 0, 0, 9, M1 64 (M1 67 x5))), (6, (0, 0, 0, 9, M1 64 (M1 66 x5))), (5, (0, 0, 0, 16, x5)), (4, (0, 0, (-1), 9, x4)), (3, (0, 0, 0, 9, x3)), (2, (2, 82, 0, 0, 0)), (1, (0, 0, 0, 9, x1)), (0, (2, 60, 0, 0, 0))] [] M1
                        refine hgo.2.1 349 _ [(10, (0, 0, 0, 13, M1 66 x5)), (9, (0, 0, 0, 13, M1 66 x5)), (8, (0, 0, 0, 9, M1 64 (M1 66 x5))), (5, (0, 0, 0, 15, x5)), (3, (0, 0, 0, 9, x3)), (2, (2, 82, 0, 0, 0)), (1, (0, 0, 0, 9, x1)), (0, (2, 60, 0, 0, 0))] _ _ (xa_subI rfl rfl (fun _ _ _ _ => by omega) (xa_subI rfl rfl (fun _ _ _ _ => by omega) (xa_subI rfl rfl (fun _ _ _ _ => by omega) (xa_subI rfl rfl (fun _ _ _ _ => by omega) (xa_subI rfl rfl (fun _ _ _ _ => by omega) (xa_subR rfl (xa_subI rfl rfl (fun _ _ _ _ => by omega) (xa_subR rfl xa_sub0)))))))) ?_
                        exact key349 (M1 64 (M1 66 x5)) (M1 66 x5) (M1 66 x5) (by omega) (by omega) (by omega) (by omega) (by omega) (by omega) ⟨wr_mk (x9 := (M1 66 x5)) (x10 := (M1 66 x5)) e66 e67 eA eB (by omega) ((hPn9e ▸ hPn) (by omega)).2 (by omega) (by omega), by first | exact xm_corq hc 64 rfl _ | omega⟩
                      · intro (c8 : (M1 64 (M1 66 x5)) = x3)
                        refine And.intro (show 0 ≤ x5 ∧ x5 < 16 by omega) ?_
                        show Q 349 [(10, (0, 0, 0, 13, M1 67 x5)), (9, (0, 0, 0, 13, M1 66 x5)), (8, (0, 0, 0, 9, M1 64 (M1 66 x5))), (7, (0, 0, 0, 9, M1 64 (M1 67 x5))), (6, (0, 0, 0, 9, M1 64 (M1 66 x5))), (5, (0, 0, 0, 16, x5)), (4, (0, 0, (-1), 9, x4)), (3, (0, 0, 0, 9, x3)), (2, (2, 82, 0, 0, 0)), (1, (0, 0, 0, 9, x1)), (0, (2, 60, 0, 0, 0))] [] M1
                        refine hgo.2.1 349 _ [(10, (0, 0, 0, 13, M1 67 x5)), (9, (0, 0, 0, 13, M1 66 x5)), (8, (0, 0, 0, 9, M1 64 (M1 66 x5))), (5, (0, 0, 0, 15, x5)), (3, (0, 0, 0, 9, x3)), (2, (2, 82, 0, 0, 0)), (1, (0, 0, 0, 9, x1)), (0, (2, 60, 0, 0, 0))] _ _ (xa_subI rfl rfl (fun _ _ _ _ => by omega) (xa_subI rfl rfl (fun _ _ _ _ => by omega) (xa_subI rfl rfl (fun _ _ _ _ => by omega) (xa_subI rfl rfl (fun _ _ _ _ => by omega) (xa_subI rfl rfl (fun _ _ _ _ => by omega) (xa_subR rfl (xa_subI rfl rfl (fun _ _ _ _ => by omega) (xa_subR rfl xa_sub0)))))))) ?_
                        exact key349 (M1 64 (M1 66 x5)) (M1 66 x5) (M1 67 x5) (by omega) (by omega) (by omega) (by omega) (by omega) (by omega) ⟨wr_mk (x9 := (M1 66 x5)) (x10 := (M1 67 x5)) e66 e67 eA eB (by omega) ((hPn9e ▸ hPn) (by omega)).2 (by omega) (by omega), by first | exact xm_corq hc 64 rfl _ | omega⟩
                  · intro (c5 : ¬ (M1 78 (M1 64 (M1 66 x5))) = ((M1 78 x3) - 1))
                    show Q 205 [(5, (0, 0, 1, 17, x5 + 1)), (8, (0, 0, 0, 9, M1 64 (M1 66 x5))), (7, (0, 0, 0, 9, M1 64 (M1 67 x5))), (6, (0, 0, 0, 9, M1 64 (M1 66 x5))), (4, (0, 0, (-1), 9, x4)), (3, (0, 0, 0, 9, x3)), (2, (2, 82, 0, 0, 0)), (1, (0, 0, 0, 9, x1)), (0, (2, 60, 0, 0, 0))] [] M1
                    refine hgo.2.1 205 _ [(5, (0, 0, 0, 16, x5 + 1)), (4, (0, 0, (-1), 9, x4)), (3, (0, 0, 0, 9, x3)), (2, (2, 82, 0, 0, 0)), (1, (0, 0, 0, 9, x1)), (0, (2, 60, 0, 0, 0))] _ _ (xa_subI rfl rfl (fun _ _ _ _ => by omega) (xa_subI rfl rfl (fun _ _ _ _ => by omega) (xa_subI rfl rfl (fun _ _ _ _ => by omega) (xa_subR rfl (xa_subI rfl rfl (fun _ _ _ _ => by omega) (xa_subR rfl xa_sub0)))))) ?_
                    have hno9 : ¬ wp_c (M 64) (M 66) (M 67) (M1 78) x3 (M1 78 x3) x5 := by
                      show ¬ ((xw_A M x5 = x3 ∧ M1 78 (xw_B M x5) = M1 78 x3 - 1) ∨ (xw_B M x5 = x3 ∧ M1 78 (xw_A M x5) = M1 78 x3 - 1))
                      rw [eA, eB]
                      omega
                    exact ih5 (x5 + 1) x4 M1 (by omega) (by omega) hc (by first | exact hG | assumption) (by first | omega | (simp [xa_up]; done) | (simp [xa_up]; omega)) (by first | omega | (simp [xa_up]; done) | (simp [xa_up]; omega)) (by first | omega | (intro h; simp [xa_up]; omega)) (by first | omega | (intro h; simp [xa_up]; omega)) (fun h => xw_E_n (hE h) (by rw [eA, eB]; omega)) (fun h => by rw [hPn9e] at hPn; exact ⟨(hPn h).1, fun i i0 i1 => by
                        by_cases e : i = x5
                        · rw [e]
                          exact hno9
                        · exact (hPn h).2 i i0 (by omega)⟩) (fun h => by omega) (by omega)
                · intro (c4 : (M1 64 (M1 66 x5)) = x3)
                  refine And.intro ?_ ?_
                  · intro (c9 : (M1 78 (M1 64 (M1 67 x5))) = ((M1 78 x3) - 1))
                    refine And.intro ?_ ?_
                    · intro (c10 : ¬ (M1 64 (M1 66 x5)) = x3)
                      refine And.intro (show 0 ≤ x5 ∧ x5 < 16 by omega) ?_
                      refine And.intro ?_ ?_
                      · intro (c11 : ¬ (M1 64 (M1 66 x5)) = x3)
                        refine And.intro (show 0 ≤ x5 ∧ x5 < 16 by omega) ?_
                        show Q 349 [(10, (0, 0, 0, 13, M1 66 x5)), (9, (0, 0, 0, 13, M1 67 x5)), (8, (0, 0, 0, 9, M1 64 (M1 67 x5))), (7, (0, 0, 0, 9, M1 64 (M1 67 x5))), (6, (0, 0, 0, 9, M1 64 (M1 66 x5))), (5, (0, 0, 0, 16, x5)), (4, (0, 0, (-1), 9, x4)), (3, (0, 0, 0, 9, x3)), (2, (2, 82, 0, 0, 0)), (1, (0, 0, 0, 9, x1)), (0, (2, 60, 0, 0, 0))] [] M1
                        refine hgo.2.1 349 _ [(10, (0, 0, 0, 13, M1 66 x5)), (9, (0, 0, 0, 13, M1 67 x5)), (8, (0, 0, 0, 9, M1 64 (M1 67 x5))), (5, (0, 0, 0, 15, x5)), (3, (0, 0, 0, 9, x3)), (2, (2, 82, 0, 0, 0)), (1, (0, 0, 0, 9, x1)), (0, (2, 60, 0, 0, 0))] _ _ (xa_subI rfl rfl (fun _ _ _ _ => by omega) (xa_subI rfl rfl (fun _ _ _ _ => by omega) (xa_subI rfl rfl (fun _ _ _ _ => by omega) (xa_subI rfl rfl (fun _ _ _ _ => by omega) (xa_subI rfl rfl (fun _ _ _ _ => by omega) (xa_subR rfl (xa_subI rfl rfl (fun _ _ _ _ => by omega) (xa_subR rfl xa_sub0)))))))) ?_
                        exact key349 (M1 64 (M1 67 x5)) (M1 67 x5) (M1 66 x5) (by omega) (by omega) (by omega) (by omega) (by omega) (by omega) ⟨wr_mk (x9 := (M1 67 x5)) (x10 := (M1 66 x5)) e66 e67 eA eB (by omega) ((hPn9e ▸ hPn) (by omega)).2 (by omega) (by omega), by first | exact xm_corq hc 64 rfl _ | omega⟩
                      · intro (c11 : (M1 64 (M1 66 x5)) = x3)
                        refine And.intro (show 0 ≤ x5 ∧ x5 < 16 by omega) ?_
                        show Q 349 [(10, (0, 0, 0, 13, M1 67 x5)), (9, (0, 0, 0, 13, M1 67 x5)), (8, (0, 0, 0, 9, M1 64 (M1 67 x5))), (7, (0, 0, 0, 9, M1 64 (M1 67 x5))), (6, (0, 0, 0, 9, M1 64 (M1 66 x5))), (5, (0, 0, 0, 16, x5)), (4, (0, 0, (-1), 9, x4)), (3, (0, 0, 0, 9, x3)), (2, (2, 82, 0, 0, 0)), (1, (0, 0, 0, 9, x1)), (0, (2, 60, 0, 0, 0))] [] M1
                        refine hgo.2.1 349 _ [(10, (0, 0, 0, 13, M1 67 x5)), (9, (0, 0, 0, 13, M1 67 x5)), (8, (0, 0, 0, 9, M1 64 (M1 67 x5))), (5, (0, 0, 0, 15, x5)), (3, (0, 0, 0, 9, x3)), (2, (2, 82, 0, 0, 0)), (1, (0, 0, 0, 9, x1)), (0, (2, 60, 0, 0, 0))] _ _ (xa_subI rfl rfl (fun _ _ _ _ => by omega) (xa_subI rfl rfl (fun _ _ _ _ => by omega) (xa_subI rfl rfl (fun _ _ _ _ => by omega) (xa_subI rfl rfl (fun _ _ _ _ => by omega) (xa_subI rfl rfl (fun _ _ _ _ => by omega) (xa_subR rfl (xa_subI rfl rfl (fun _ _ _ _ => by omega) (xa_subR rfl xa_sub0)))))))) ?_
                        exact key349 (M1 64 (M1 67 x5)) (M1 67 x5) (M1 67 x5) (by omega) (by omega) (by omega) (by omega) (by omega) (by omega) ⟨wr_mk (x9 := (M1 67 x5)) (x10 := (M1 67 x5)) e66 e67 eA eB (by omega) ((hPn9e ▸ hPn) (by omega)).2 (by omega) (by omega), by first | exact xm_corq hc 64 rfl _ | omega⟩
                    · intro (c10 : (M1 64 (M1 66 x5)) = x3)
                      refine And.intro (show 0 ≤ x5 ∧ x5 < 16 by omega) ?_
                      refine And.intro ?_ ?_
                      · intro (c12 : ¬ (M1 64 (M1 66 x5)) = x3)
                        refine And.intro (show 0 ≤ x5 ∧ x5 < 16 by omega) ?_
                        show Q 349 [(10, (0, 0, 0, 13, M1 66 x5)), (9, (0, 0, 0, 13, M1 66 x5)), (8, (0, 0, 0, 9, M1 64 (M1 67 x5))), (7, (0, 0, 0, 9, M1 64 (M1 67 x5))), (6, (0, 0, 0, 9, M1 64 (M1 66 x5))), (5, (0, 0, 0, 16, x5)), (4, (0, 0, (-1), 9, x4)), (3, (0, 0, 0, 9, x3)), (2, (2, 82, 0, 0, 0)), (1, (0, 0, 0, 9, x1)), (0, (2, 60, 0, 0, 0))] [] M1
                        refine hgo.2.1 349 _ [(10, (0, 0, 0, 13, M1 66 x5)), (9, (0, 0, 0, 13, M1 66 x5)), (8, (0, 0, 0, 9, M1 64 (M1 67 x5))), (5, (0, 0, 0, 15, x5)), (3, (0, 0, 0, 9, x3)), (2, (2, 82, 0, 0, 0)), (1, (0, 0, 0, 9, x1)), (0, (2, 60, 0, 0, 0))] _ _ (xa_subI rfl rfl (fun _ _ _ _ => by omega) (xa_subI rfl rfl (fun _ _ _ _ => by omega) (xa_subI rfl rfl (fun _ _ _ _ => by omega) (xa_subI rfl rfl (fun _ _ _ _ => by omega) (xa_subI rfl rfl (fun _ _ _ _ => by omega) (xa_subR rfl (xa_subI rfl rfl (fun _ _ _ _ => by omega) (xa_subR rfl xa_sub0)))))))) ?_
                        exact key349 (M1 64 (M1 67 x5)) (M1 66 x5) (M1 66 x5) (by omega) (by omega) (by omega) (by omega) (by omega) (by omega) ⟨wr_mk (x9 := (M1 66 x5)) (x10 := (M1 66 x5)) e66 e67 eA eB (by omega) ((hPn9e ▸ hPn) (by omega)).2 (by omega) (by omega), by first | exact xm_corq hc 64 rfl _ | omega⟩
                      · intro (c12 : (M1 64 (M1 66 x5)) = x3)
                        refine And.intro (show 0 ≤ x5 ∧ x5 < 16 by omega) ?_
                        show Q 349 [(10, (0, 0, 0, 13, M1 67 x5)), (9, (0, 0, 0, 13, M1 66 x5)), (8, (0, 0, 0, 9, M1 64 (M1 67 x5))), (7, (0, 0, 0, 9, M1 64 (M1 67 x5))), (6, (0, 0, 0, 9, M1 64 (M1 66 x5))), (5, (0, 0, 0, 16, x5)), (4, (0, 0, (-1), 9, x4)), (3, (0, 0, 0, 9, x3)), (2, (2, 82, 0, 0, 0)), (1, (0, 0, 0, 9, x1)), (0, (2, 60, 0, 0, 0))] [] M1
                        refine hgo.2.1 349 _ [(10, (0, 0, 0, 13, M1 67 x5)), (9, (0, 0, 0, 13, M1 66 x5)), (8, (0, 0, 0, 9, M1 64 (M1 67 x5))), (5, (0, 0, 0, 15, x5)), (3, (0, 0, 0, 9, x3)), (2, (2, 82, 0, 0, 0)), (1, (0, 0, 0, 9, x1)), (0, (2, 60, 0, 0, 0))] _ _ (xa_subI rfl rfl (fun _ _ _ _ => by omega) (xa_subI rfl rfl (fun _ _ _ _ => by omega) (xa_subI rfl rfl (fun _ _ _ _ => by omega) (xa_subI rfl rfl (fun _ _ _ _ => by omega) (xa_subI rfl rfl (fun _ _ _ _ => by omega) (xa_subR rfl (xa_subI rfl rfl (fun _ _ _ _ => by omega) (xa_subR rfl xa_sub0)))))))) ?_
                        exact key349 (M1 64 (M1 67 x5)) (M1 66 x5) (M1 67 x5) (by omega) (by omega) (by omega) (by omega) (by omega) (by omega) ⟨wr_mk (x9 := (M1 66 x5)) (x10 := (M1 67 x5)) e66 e67 eA eB (by omega) ((hPn9e ▸ hPn) (by omega)).2 (by omega) (by omega), by first | exact xm_corq hc 64 rfl _ | omega⟩
                  · intro (c9 : ¬ (M1 78 (M1 64 (M1 67 x5))) = ((M1 78 x3) - 1))
                    show Q 205 [(5, (0, 0, 1, 17, x5 + 1)), (8, (0, 0, 0, 9, M1 64 (M1 67 x5))), (7, (0, 0, 0, 9, M1 64 (M1 67 x5))), (6, (0, 0, 0, 9, M1 64 (M1 66 x5))), (4, (0, 0, (-1), 9, x4)), (3, (0, 0, 0, 9, x3)), (2, (2, 82, 0, 0, 0)), (1, (0, 0, 0, 9, x1)), (0, (2, 60, 0, 0, 0))] [] M1
                    refine hgo.2.1 205 _ [(5, (0, 0, 0, 16, x5 + 1)), (4, (0, 0, (-1), 9, x4)), (3, (0, 0, 0, 9, x3)), (2, (2, 82, 0, 0, 0)), (1, (0, 0, 0, 9, x1)), (0, (2, 60, 0, 0, 0))] _ _ (xa_subI rfl rfl (fun _ _ _ _ => by omega) (xa_subI rfl rfl (fun _ _ _ _ => by omega) (xa_subI rfl rfl (fun _ _ _ _ => by omega) (xa_subR rfl (xa_subI rfl rfl (fun _ _ _ _ => by omega) (xa_subR rfl xa_sub0)))))) ?_
                    have hno9 : ¬ wp_c (M 64) (M 66) (M 67) (M1 78) x3 (M1 78 x3) x5 := by
                      show ¬ ((xw_A M x5 = x3 ∧ M1 78 (xw_B M x5) = M1 78 x3 - 1) ∨ (xw_B M x5 = x3 ∧ M1 78 (xw_A M x5) = M1 78 x3 - 1))
                      rw [eA, eB]
                      omega
                    exact ih5 (x5 + 1) x4 M1 (by omega) (by omega) hc (by first | exact hG | assumption) (by first | omega | (simp [xa_up]; done) | (simp [xa_up]; omega)) (by first | omega | (simp [xa_up]; done) | (simp [xa_up]; omega)) (by first | omega | (intro h; simp [xa_up]; omega)) (by first | omega | (intro h; simp [xa_up]; omega)) (fun h => xw_E_n (hE h) (by rw [eA, eB]; omega)) (fun h => by rw [hPn9e] at hPn; exact ⟨(hPn h).1, fun i i0 i1 => by
                        by_cases e : i = x5
                        · rw [e]
                          exact hno9
                        · exact (hPn h).2 i i0 (by omega)⟩) (fun h => by omega) (by omega)
              · intro (c3 : ¬ (M1 64 (M1 66 x5)) = x3)
                refine And.intro ?_ ?_
                · intro (c13 : (M1 64 (M1 67 x5)) = x3)
                  refine And.intro ?_ ?_
                  · intro (c14 : ¬ (M1 64 (M1 66 x5)) = x3)
                    refine And.intro ?_ ?_
                    · intro (c15 : (M1 78 (M1 64 (M1 66 x5))) = ((M1 78 x3) - 1))
                      refine And.intro ?_ ?_
                      · intro (c16 : ¬ (M1 64 (M1 66 x5)) = x3)
                        refine And.intro (show 0 ≤ x5 ∧ x5 < 16 by omega) ?_
                        refine And.intro ?_ ?_
                        · intro (c17 : ¬ (M1 64 (M1 66 x5)) = x3)
                          refine And.intro (show 0 ≤ x5 ∧ x5 < 16 by omega) ?_
                          show Q 349 [(10, (0, 0, 0, 13, M1 66 x5)), (9, (0, 0, 0, 13, M1 67 x5)), (8, (0, 0, 0, 9, M1 64 (M1 66 x5))), (7, (0, 0, 0, 9, M1 64 (M1 67 x5))), (6, (0, 0, 0, 9, M1 64 (M1 66 x5))), (5, (0, 0, 0, 16, x5)), (4, (0, 0, (-1), 9, x4)), (3, (0, 0, 0, 9, x3)), (2, (2, 82, 0, 0, 0)), (1, (0, 0, 0, 9, x1)), (0, (2, 60, 0, 0, 0))] [] M1
                          refine hgo.2.1 349 _ [(10, (0, 0, 0, 13, M1 66 x5)), (9, (0, 0, 0, 13, M1 67 x5)), (8, (0, 0, 0, 9, M1 64 (M1 66 x5))), (5, (0, 0, 0, 15, x5)), (3, (0, 0, 0, 9, x3)), (2, (2, 82, 0, 0, 0)), (1, (0, 0, 0, 9, x1)), (0, (2, 60, 0, 0, 0))] _ _ (xa_subI rfl rfl (fun _ _ _ _ => by omega) (xa_subI rfl rfl (fun _ _ _ _ => by omega) (xa_subI rfl rfl (fun _ _ _ _ => by omega) (xa_subI rfl rfl (fun _ _ _ _ => by omega) (xa_subI rfl rfl (fun _ _ _ _ => by omega) (xa_subR rfl (xa_subI rfl rfl (fun _ _ _ _ => by omega) (xa_subR rfl xa_sub0)))))))) ?_
                          exact key349 (M1 64 (M1 66 x5)) (M1 67 x5) (M1 66 x5) (by omega) (by omega) (by omega) (by omega) (by omega) (by omega) ⟨wr_mk (x9 := (M1 67 x5)) (x10 := (M1 66 x5)) e66 e67 eA eB (by omega) ((hPn9e ▸ hPn) (by omega)).2 (by omega) (by omega), by first | exact xm_corq hc 64 rfl _ | omega⟩
                        · intro (c17 : (M1 64 (M1 66 x5)) = x3)
                          refine And.intro (show 0 ≤ x5 ∧ x5 < 16 by omega) ?_
                          show Q 349 [(10, (0, 0, 0, 13, M1 67 x5)), (9, (0, 0, 0, 13, M1 67 x5)), (8, (0, 0, 0, 9, M1 64 (M1 66 x5))), (7, (0, 0, 0, 9, M1 64 (M1 67 x5))), (6, (0, 0, 0, 9, M1 64 (M1 66 x5))), (5, (0, 0, 0, 16, x5)), (4, (0, 0, (-1), 9, x4)), (3, (0, 0, 0, 9, x3)), (2, (2, 82, 0, 0, 0)), (1, (0, 0, 0, 9, x1)), (0, (2, 60, 0, 0, 0))] [] M1
                          refine hgo.2.1 349 _ [(10, (0, 0, 0, 13, M1 67 x5)), (9, (0, 0, 0, 13, M1 67 x5)), (8, (0, 0, 0, 9, M1 64 (M1 66 x5))), (5, (0, 0, 0, 15, x5)), (3, (0, 0, 0, 9, x3)), (2, (2, 82, 0, 0, 0)), (1, (0, 0, 0, 9, x1)), (0, (2, 60, 0, 0, 0))] _ _ (xa_subI rfl rfl (fun _ _ _ _ => by omega) (xa_subI rfl rfl (fun _ _ _ _ => by omega) (xa_subI rfl rfl (fun _ _ _ _ => by omega) (xa_subI rfl rfl (fun _ _ _ _ => by omega) (xa_subI rfl rfl (fun _ _ _ _ => by omega) (xa_subR rfl (xa_subI rfl rfl (fun _ _ _ _ => by omega) (xa_subR rfl xa_sub0)))))))) ?_
                          exact key349 (M1 64 (M1 66 x5)) (M1 67 x5) (M1 67 x5) (by omega) (by omega) (by omega) (by omega) (by omega) (by omega) ⟨wr_mk (x9 := (M1 67 x5)) (x10 := (M1 67 x5)) e66 e67 eA eB (by omega) ((hPn9e ▸ hPn) (by omega)).2 (by omega) (by omega), by first | exact xm_corq hc 64 rfl _ | omega⟩
                      · intro (c16 : (M1 64 (M1 66 x5)) = x3)
                        refine And.intro (show 0 ≤ x5 ∧ x5 < 16 by omega) ?_
                        refine And.intro ?_ ?_
                        · intro (c18 : ¬ (M1 64 (M1 66 x5)) = x3)
                          refine And.intro (show 0 ≤ x5 ∧ x5 < 16 by omega) ?_
                          show Q 349 [(10, (0, 0, 0, 13, M1 66 x5)), (9, (0, 0, 0, 13, M1 66 x5)), (8, (0, 0, 0, 9, M1 64 (M1 66 x5))), (7, (0, 0, 0, 9, M1 64 (M1 67 x5))), (6, (0, 0, 0, 9, M1 64 (M1 66 x5))), (5, (0, 0, 0, 16, x5)), (4, (0, 0, (-1), 9, x4)), (3, (0, 0, 0, 9, x3)), (2, (2, 82, 0, 0, 0)), (1, (0, 0, 0, 9, x1)), (0, (2, 60, 0, 0, 0))] [] M1
                          refine hgo.2.1 349 _ [(10, (0, 0, 0, 13, M1 66 x5)), (9, (0, 0, 0, 13, M1 66 x5)), (8, (0, 0, 0, 9, M1 64 (M1 66 x5))), (5, (0, 0, 0, 15, x5)), (3, (0, 0, 0, 9, x3)), (2, (2, 82, 0, 0, 0)), (1, (0, 0, 0, 9, x1)), (0, (2, 60, 0, 0, 0))] _ _ (xa_subI rfl rfl (fun _ _ _ _ => by omega) (xa_subI rfl rfl (fun _ _ _ _ => by omega) (xa_subI rfl rfl (fun _ _ _ _ => by omega) (xa_subI rfl rfl (fun _ _ _ _ => by omega) (xa_subI rfl rfl (fun _ _ _ _ => by omega) (xa_subR rfl (xa_subI rfl rfl (fun _ _ _ _ => by omega) (xa_subR rfl xa_sub0)))))))) ?_
                          exact key349 (M1 64 (M1 66 x5)) (M1 66 x5) (M1 66 x5) (by omega) (by omega) (by omega) (by omega) (by omega) (by omega) ⟨wr_mk (x9 := (M1 66 x5)) (x10 := (M1 66 x5)) e66 e67 eA eB (by omega) ((hPn9e ▸ hPn) (by omega)).2 (by omega) (by omega), by first | exact xm_corq hc 64 rfl _ | omega⟩
                        · intro (c18 : (M1 64 (M1 66 x5)) = x3)
                          refine And.intro (show 0 ≤ x5 ∧ x5 < 16 by omega) ?_
                          show Q 349 [(10, (0, 0, 0, 13, M1 67 x5)), (9, (0, 0, 0, 13, M1 66 x5)), (8, (0, 0, 0, 9, M1 64 (M1 66 x5))), (7, (0, 0, 0, 9, M1 64 (M1 67 x5))), (6, (0, 0, 0, 9, M1 64 (M1 66 x5))), (5, (0, 0, 0, 16, x5)), (4, (0, 0, (-1), 9, x4)), (3, (0, 0, 0, 9, x3)), (2, (2, 82, 0, 0, 0)), (1, (0, 0, 0, 9, x1)), (0, (2, 60, 0, 0, 0))] [] M1
                          refine hgo.2.1 349 _ [(10, (0, 0, 0, 13, M1 67 x5)), (9, (0, 0, 0, 13, M1 66 x5)), (8, (0, 0, 0, 9, M1 64 (M1 66 x5))), (5, (0, 0, 0, 15, x5)), (3, (0, 0, 0, 9, x3)), (2, (2, 82, 0, 0, 0)), (1, (0, 0, 0, 9, x1)), (0, (2, 60, 0, 0, 0))] _ _ (xa_subI rfl rfl (fun _ _ _ _ => by omega) (xa_subI rfl rfl (fun _ _ _ _ => by omega) (xa_subI rfl rfl (fun _ _ _ _ => by omega) (xa_subI rfl rfl (fun _ _ _ _ => by omega) (xa_subI rfl rfl (fun _ _ _ _ => by omega) (xa_subR rfl (xa_subI rfl rfl (fun _ _ _ _ => by omega) (xa_subR rfl xa_sub0)))))))) ?_
                          exact key349 (M1 64 (M1 66 x5)) (M1 66 x5) (M1 67 x5) (by omega) (by omega) (by omega) (by omega) (by omega) (by omega) ⟨wr_mk (x9 := (M1 66 x5)) (x10 := (M1 67 x5)) e66 e67 eA eB (by omega) ((hPn9e ▸ hPn) (by omega)).2 (by omega) (by omega), by first | exact xm_corq hc 64 rfl _ | omega⟩
                    · intro (c15 : ¬ (M1 78 (M1 64 (M1 66 x5))) = ((M1 78 x3) - 1))
                      show Q 205 [(5, (0, 0, 1, 17, x5 + 1)), (8, (0, 0, 0, 9, M1 64 (M1 66 x5))), (7, (0, 0, 0, 9, M1 64 (M1 67 x5))), (6, (0, 0, 0, 9, M1 64 (M1 66 x5))), (4, (0, 0, (-1), 9, x4)), (3, (0, 0, 0, 9, x3)), (2, (2, 82, 0, 0, 0)), (1, (0, 0, 0, 9, x1)), (0, (2, 60, 0, 0, 0))] [] M1
                      refine hgo.2.1 205 _ [(5, (0, 0, 0, 16, x5 + 1)), (4, (0, 0, (-1), 9, x4)), (3, (0, 0, 0, 9, x3)), (2, (2, 82, 0, 0, 0)), (1, (0, 0, 0, 9, x1)), (0, (2, 60, 0, 0, 0))] _ _ (xa_subI rfl rfl (fun _ _ _ _ => by omega) (xa_subI rfl rfl (fun _ _ _ _ => by omega) (xa_subI rfl rfl (fun _ _ _ _ => by omega) (xa_subR rfl (xa_subI rfl rfl (fun _ _ _ _ => by omega) (xa_subR rfl xa_sub0)))))) ?_
                      have hno9 : ¬ wp_c (M 64) (M 66) (M 67) (M1 78) x3 (M1 78 x3) x5 := by
                        show ¬ ((xw_A M x5 = x3 ∧ M1 78 (xw_B M x5) = M1 78 x3 - 1) ∨ (xw_B M x5 = x3 ∧ M1 78 (xw_A M x5) = M1 78 x3 - 1))
                        rw [eA, eB]
                        omega
                      exact ih5 (x5 + 1) x4 M1 (by omega) (by omega) hc (by first | exact hG | assumption) (by first | omega | (simp [xa_up]; done) | (simp [xa_up]; omega)) (by first | omega | (simp [xa_up]; done) | (simp [xa_up]; omega)) (by first | omega | (intro h; simp [xa_up]; omega)) (by first | omega | (intro h; simp [xa_up]; omega)) (fun h => xw_E_n (hE h) (by rw [eA, eB]; omega)) (fun h => by rw [hPn9e] at hPn; exact ⟨(hPn h).1, fun i i0 i1 => by
                          by_cases e : i = x5
                          · rw [e]
                            exact hno9
                          · exact (hPn h).2 i i0 (by omega)⟩) (fun h => by omega) (by omega)
                  · intro (c14 : (M1 64 (M1 66 x5)) = x3)
                    refine And.intro ?_ ?_
                    · intro (c19 : (M1 78 (M1 64 (M1 67 x5))) = ((M1 78 x3) - 1))
                      refine And.intro ?_ ?_
                      · intro (c20 : ¬ (M1 64 (M1 66 x5)) = x3)
                        refine And.intro (show 0 ≤ x5 ∧ x5 < 16 by omega) ?_
                        refine And.intro ?_ ?_
                        · intro (c21 : ¬ (M1 64 (M1 66 x5)) = x3)
                          refine And.intro (show 0 ≤ x5 ∧ x5 < 16 by omega) ?_
                          show Q 349 [(10, (0, 0, 0, 13, M1 66 x5)), (9, (0, 0, 0, 13, M1 67 x5)), (8, (0, 0, 0, 9, M1 64 (M1 67 x5))), (7, (0, 0, 0, 9, M1 64 (M1 67 x5))), (6, (0, 0, 0, 9, M1 64 (M1 66 x5))), (5, (0, 0, 0, 16, x5)), (4, (0, 0, (-1), 9, x4)), (3, (0, 0, 0, 9, x3)), (2, (2, 82, 0, 0, 0)), (1, (0, 0, 0, 9, x1)), (0, (2, 60, 0, 0, 0))] [] M1
                          refine hgo.2.1 349 _ [(10, (0, 0, 0, 13, M1 66 x5)), (9, (0, 0, 0, 13, M1 67 x5)), (8, (0, 0, 0, 9, M1 64 (M1 67 x5))), (5, (0, 0, 0, 15, x5)), (3, (0, 0, 0, 9, x3)), (2, (2, 82, 0, 0, 0)), (1, (0, 0, 0, 9, x1)), (0, (2, 60, 0, 0, 0))] _ _ (xa_subI rfl rfl (fun _ _ _ _ => by omega) (xa_subI rfl rfl (fun _ _ _ _ => by omega) (xa_subI rfl rfl (fun _ _ _ _ => by omega) (xa_subI rfl rfl (fun _ _ _ _ => by omega) (xa_subI rfl rfl (fun _ _ _ _ => by omega) (xa_subR rfl (xa_subI rfl rfl (fun _ _ _ _ => by omega) (xa_subR rfl xa_sub0)))))))) ?_
                          exact key349 (M1 64 (M1 67 x5)) (M1 67 x5) (M1 66 x5) (by omega) (by omega) (by omega) (by omega) (by omega) (by omega) ⟨wr_mk (x9 := (M1 67 x5)) (x10 := (M1 66 x5)) e66 e67 eA eB (by omega) ((hPn9e ▸ hPn) (by omega)).2 (by omega) (by omega), by first | exact xm_corq hc 64 rfl _ | omega⟩
                        · intro (c21 : (M1 64 (M1 66 x5)) = x3)
                          refine And.intro (show 0 ≤ x5 ∧ x5 < 16 by omega) ?_
                          show Q 349 [(10, (0, 0, 0, 13, M1 67 x5)), (9, (0, 0, 0, 13, M1 67 x5)), (8, (0, 0, 0, 9, M1 64 (M1 67 x5))), (7, (0, 0, 0, 9, M1 64 (M1 67 x5))), (6, (0, 0, 0, 9, M1 64 (M1 66 x5))), (5, (0, 0, 0, 16, x5)), (4, (0, 0, (-1), 9, x4)), (3, (0, 0, 0, 9, x3)), (2, (2, 82, 0, 0, 0)), (1, (0, 0, 0, 9, x1)), (0, (2, 60, 0, 0, 0))] [] M1
                          refine hgo.2.1 349 _ [(10, (0, 0, 0, 13, M1 67 x5)), (9, (0, 0, 0, 13, M1 67 x5)), (8, (0, 0, 0, 9, M1 64 (M1 67 x5))), (5, (0, 0, 0, 15, x5)), (3, (0, 0, 0, 9, x3)), (2, (2, 82, 0, 0, 0)), (1, (0, 0, 0, 9, x1)), (0, (2, 60, 0, 0, 0))] _ _ (xa_subI rfl rfl (fun _ _ _ _ => by omega) (xa_subI rfl rfl (fun _ _ _ _ => by omega) (xa_subI rfl rfl (fun _ _ _ _ => by omega) (xa_subI rfl rfl (fun _ _ _ _ => by omega) (xa_subI rfl rfl (fun _ _ _ _ => by omega) (xa_subR rfl (xa_subI rfl rfl (fun _ _ _ _ => by omega) (xa_subR rfl xa_sub0)))))))) ?_
                          exact key349 (M1 64 (M1 67 x5)) (M1 67 x5) (M1 67 x5) (by omega) (by omega) (by omega) (by omega) (by omega) (by omega) ⟨wr_mk (x9 := (M1 67 x5)) (x10 := (M1 67 x5)) e66 e67 eA eB (by omega) ((hPn9e ▸ hPn) (by omega)).2 (by omega) (by omega), by first | exact xm_corq hc 64 rfl _ | omega⟩
                      · intro (c20 : (M1 64 (M1 66 x5)) = x3)
                        refine And.intro (show 0 ≤ x5 ∧ x5 < 16 by omega) ?_
                        refine And.intro ?_ ?_
                        · intro (c22 : ¬ (M1 64 (M1 66 x5)) = x3)
                          refine And.intro (show 0 ≤ x5 ∧ x5 < 16 by omega) ?_
                          show Q 349 [(10, (0, 0, 0, 13, M1 66 x5)), (9, (0, 0, 0, 13, M1 66 x5)), (8, (0, 0, 0, 9, M1 64 (M1 67 x5))), (7, (0, 0, 0, 9, M1 64 (M1 67 x5))), (6, (0, 0, 0, 9, M1 64 (M1 66 x5))), (5, (0, 0, 0, 16, x5)), (4, (0, 0, (-1), 9, x4)), (3, (0, 0, 0, 9, x3)), (2, (2, 82, 0, 0, 0)), (1, (0, 0, 0, 9, x1)), (0, (2, 60, 0, 0, 0))] [] M1
                          refine hgo.2.1 349 _ [(10, (0, 0, 0, 13, M1 66 x5)), (9, (0, 0, 0, 13, M1 66 x5)), (8, (0, 0, 0, 9, M1 64 (M1 67 x5))), (5, (0, 0, 0, 15, x5)), (3, (0, 0, 0, 9, x3)), (2, (2, 82, 0, 0, 0)), (1, (0, 0, 0, 9, x1)), (0, (2, 60, 0, 0, 0))] _ _ (xa_subI rfl rfl (fun _ _ _ _ => by omega) (xa_subI rfl rfl (fun _ _ _ _ => by omega) (xa_subI rfl rfl (fun _ _ _ _ => by omega) (xa_subI rfl rfl (fun _ _ _ _ => by omega) (xa_subI rfl rfl (fun _ _ _ _ => by omega) (xa_subR rfl (xa_subI rfl rfl (fun _ _ _ _ => by omega) (xa_subR rfl xa_sub0)))))))) ?_
                          exact key349 (M1 64 (M1 67 x5)) (M1 66 x5) (M1 66 x5) (by omega) (by omega) (by omega) (by omega) (by omega) (by omega) ⟨wr_mk (x9 := (M1 66 x5)) (x10 := (M1 66 x5)) e66 e67 eA eB (by omega) ((hPn9e ▸ hPn) (by omega)).2 (by omega) (by omega), by first | exact xm_corq hc 64 rfl _ | omega⟩
                        · intro (c22 : (M1 64 (M1 66 x5)) = x3)
                          refine And.intro (show 0 ≤ x5 ∧ x5 < 16 by omega) ?_
                          show Q 349 [(10, (0, 0, 0, 13, M1 67 x5)), (9, (0, 0, 0, 13, M1 66 x5)), (8, (0, 0, 0, 9, M1 64 (M1 67 x5))), (7, (0, 0, 0, 9, M1 64 (M1 67 x5))), (6, (0, 0, 0, 9, M1 64 (M1 66 x5))), (5, (0, 0, 0, 16, x5)), (4, (0, 0, (-1), 9, x4)), (3, (0, 0, 0, 9, x3)), (2, (2, 82, 0, 0, 0)), (1, (0, 0, 0, 9, x1)), (0, (2, 60, 0, 0, 0))] [] M1
                          refine hgo.2.1 349 _ [(10, (0, 0, 0, 13, M1 67 x5)), (9, (0, 0, 0, 13, M1 66 x5)), (8, (0, 0, 0, 9, M1 64 (M1 67 x5))), (5, (0, 0, 0, 15, x5)), (3, (0, 0, 0, 9, x3)), (2, (2, 82, 0, 0, 0)), (1, (0, 0, 0, 9, x1)), (0, (2, 60, 0, 0, 0))] _ _ (xa_subI rfl rfl (fun _ _ _ _ => by omega) (xa_subI rfl rfl (fun _ _ _ _ => by omega) (xa_subI rfl rfl (fun _ _ _ _ => by omega) (xa_subI rfl rfl (fun _ _ _ _ => by omega) (xa_subI rfl rfl (fun _ _ _ _ => by omega) (xa_subR rfl (xa_subI rfl rfl (fun _ _ _ _ => by omega) (xa_subR rfl xa_sub0)))))))) ?_
                          exact key349 (M1 64 (M1 67 x5)) (M1 66 x5) (M1 67 x5) (by omega) (by omega) (by omega) (by omega) (by omega) (by omega) ⟨wr_mk (x9 := (M1 66 x5)) (x10 := (M1 67 x5)) e66 e67 eA eB (by omega) ((hPn9e ▸ hPn) (by omega)).2 (by omega) (by omega), by first | exact xm_corq hc 64 rfl _ | omega⟩
                    · intro (c19 : ¬ (M1 78 (M1 64 (M1 67 x5))) = ((M1 78 x3) - 1))
                      show Q 205 [(5, (0, 0, 1, 17, x5 + 1)), (8, (0, 0, 0, 9, M1 64 (M1 67 x5))), (7, (0, 0, 0, 9, M1 64 (M1 67 x5))), (6, (0, 0, 0, 9, M1 64 (M1 66 x5))), (4, (0, 0, (-1), 9, x4)), (3, (0, 0, 0, 9, x3)), (2, (2, 82, 0, 0, 0)), (1, (0, 0, 0, 9, x1)), (0, (2, 60, 0, 0, 0))] [] M1
                      refine hgo.2.1 205 _ [(5, (0, 0, 0, 16, x5 + 1)), (4, (0, 0, (-1), 9, x4)), (3, (0, 0, 0, 9, x3)), (2, (2, 82, 0, 0, 0)), (1, (0, 0, 0, 9, x1)), (0, (2, 60, 0, 0, 0))] _ _ (xa_subI rfl rfl (fun _ _ _ _ => by omega) (xa_subI rfl rfl (fun _ _ _ _ => by omega) (xa_subI rfl rfl (fun _ _ _ _ => by omega) (xa_subR rfl (xa_subI rfl rfl (fun _ _ _ _ => by omega) (xa_subR rfl xa_sub0)))))) ?_
                      have hno9 : ¬ wp_c (M 64) (M 66) (M 67) (M1 78) x3 (M1 78 x3) x5 := by
                        show ¬ ((xw_A M x5 = x3 ∧ M1 78 (xw_B M x5) = M1 78 x3 - 1) ∨ (xw_B M x5 = x3 ∧ M1 78 (xw_A M x5) = M1 78 x3 - 1))
                        rw [eA, eB]
                        omega
                      exact ih5 (x5 + 1) x4 M1 (by omega) (by omega) hc (by first | exact hG | assumption) (by first | omega | (simp [xa_up]; done) | (simp [xa_up]; omega)) (by first | omega | (simp [xa_up]; done) | (simp [xa_up]; omega)) (by first | omega | (intro h; simp [xa_up]; omega)) (by first | omega | (intro h; simp [xa_up]; omega)) (fun h => xw_E_n (hE h) (by rw [eA, eB]; omega)) (fun h => by rw [hPn9e] at hPn; exact ⟨(hPn h).1, fun i i0 i1 => by
                          by_cases e : i = x5
                          · rw [e]
                            exact hno9
                          · exact (hPn h).2 i i0 (by omega)⟩) (fun h => by omega) (by omega)
                · intro (c13 : ¬ (M1 64 (M1 67 x5)) = x3)
                  show Q 205 [(5, (0, 0, 1, 17, x5 + 1)), (7, (0, 0, 0, 9, M1 64 (M1 67 x5))), (6, (0, 0, 0, 9, M1 64 (M1 66 x5))), (4, (0, 0, (-1), 9, x4)), (3, (0, 0, 0, 9, x3)), (2, (2, 82, 0, 0, 0)), (1, (0, 0, 0, 9, x1)), (0, (2, 60, 0, 0, 0))] [] M1
                  refine hgo.2.1 205 _ [(5, (0, 0, 0, 16, x5 + 1)), (4, (0, 0, (-1), 9, x4)), (3, (0, 0, 0, 9, x3)), (2, (2, 82, 0, 0, 0)), (1, (0, 0, 0, 9, x1)), (0, (2, 60, 0, 0, 0))] _ _ (xa_subI rfl rfl (fun _ _ _ _ => by omega) (xa_subI rfl rfl (fun _ _ _ _ => by omega) (xa_subI rfl rfl (fun _ _ _ _ => by omega) (xa_subR rfl (xa_subI rfl rfl (fun _ _ _ _ => by omega) (xa_subR rfl xa_sub0)))))) ?_
                  have hno9 : ¬ wp_c (M 64) (M 66) (M 67) (M1 78) x3 (M1 78 x3) x5 := by
                    show ¬ ((xw_A M x5 = x3 ∧ M1 78 (xw_B M x5) = M1 78 x3 - 1) ∨ (xw_B M x5 = x3 ∧ M1 78 (xw_A M x5) = M1 78 x3 - 1))
                    rw [eA, eB]
                    omega
                  exact ih5 (x5 + 1) x4 M1 (by omega) (by omega) hc (by first | exact hG | assumption) (by first | omega | (simp [xa_up]; done) | (simp [xa_up]; omega)) (by first | omega | (simp [xa_up]; done) | (simp [xa_up]; omega)) (by first | omega | (intro h; simp [xa_up]; omega)) (by first | omega | (intro h; simp [xa_up]; omega)) (fun h => xw_E_n (hE h) (by rw [eA, eB]; omega)) (fun h => by rw [hPn9e] at hPn; exact ⟨(hPn h).1, fun i i0 i1 => by
                      by_cases e : i = x5
                      · rw [e]
                        exact hno9
                      · exact (hPn h).2 i i0 (by omega)⟩) (fun h => by omega) (by omega)
      refine hgo.1 12 [2, 33, 41, 169, 194, 205, 421, 349, 365, 381] 194 _ _ _ ?_
      refine And.intro ?_ ?_
      · intro (c1 : x3 = x1)
        show Q 421 [(4, (0, 0, 0, 0, 0)), (3, (0, 0, 0, 9, x3)), (2, (2, 82, 0, 0, 0)), (1, (0, 0, 0, 9, x1)), (0, (2, 60, 0, 0, 0))] [] M1
        refine hgo.2.1 421 _ [(4, (0, 0, 0, 14, 0)), (2, (2, 82, 0, 0, 0)), (1, (0, 0, 0, 9, x1)), (0, (2, 60, 0, 0, 0))] _ _ (xa_subI rfl rfl (fun _ _ _ _ => by omega) (xa_subR rfl (xa_subI rfl rfl (fun _ _ _ _ => by omega) (xa_subR rfl xa_sub0)))) ?_
        have b09 := xm_f0 hM1
        exact loop6 15 0 M1 (by omega) hc (by first | omega | (simp [xa_up]; done) | (simp [xa_up]; omega)) (by first | exact hwy | (intro i i0 i1; have h0 := h32; omega)) (wv_PD (hP9e ▸ hP) (by rw [c1]; exact hG.1)) ⟨by omega, wv_W0 h32⟩ (by omega)
      · intro (c1 : ¬ x3 = x1)
        show Q 205 [(5, (0, 0, 0, 0, 0)), (4, (0, 0, (-1), (-1), (-1))), (3, (0, 0, 0, 9, x3)), (2, (2, 82, 0, 0, 0)), (1, (0, 0, 0, 9, x1)), (0, (2, 60, 0, 0, 0))] [] M1
        refine hgo.2.1 205 _ [(5, (0, 0, 0, 16, 0)), (4, (0, 0, (-1), 9, (-1))), (3, (0, 0, 0, 9, x3)), (2, (2, 82, 0, 0, 0)), (1, (0, 0, 0, 9, x1)), (0, (2, 60, 0, 0, 0))] _ _ (xa_subI rfl rfl (fun _ _ _ _ => by omega) (xa_subI rfl rfl (fun _ _ _ _ => by omega) (xa_subI rfl rfl (fun _ _ _ _ => by omega) (xa_subR rfl (xa_subI rfl rfl (fun _ _ _ _ => by omega) (xa_subR rfl xa_sub0)))))) ?_
        exact loop5 17 0 (-1) M1 (by omega) (by omega) hc (by first | exact hG | assumption) (by first | omega | (simp [xa_up]; done) | (simp [xa_up]; omega)) (by first | omega | (simp [xa_up]; done) | (simp [xa_up]; omega)) (by first | omega | (intro h; simp [xa_up]; omega)) (by first | omega | (intro h; simp [xa_up]; omega)) (fun _ => hgx (by omega)) (fun _ => ⟨hP9e ▸ hP, fun i i0 i1 => by omega⟩) (fun h => by omega) (by omega)
  have loop3 : ∀ (n : Nat) (x3 : Int) (M1 : xa_M), 0 ≤ x3 ∧ x3 ≤ 14 → xm_cor M M1 → xw_G M x1 M1 → M1 60 29 = 0 → M1 60 32 = 0 → M1 78 0 < 99 → wr_L M x1 M1 → (∀ w : Int, 0 ≤ w → w < x3 → M1 82 w = 0 ∧ M1 83 w = 0) → 14 - x3 < (n : Int) → Q 169 [(3, (0, 0, 0, 14, x3)), (2, (2, 82, 0, 0, 0)), (1, (0, 0, 0, 9, x1)), (0, (2, 60, 0, 0, 0))] [] M1 := by
    intro n
    induction n with
    | zero => intro x3 M1 b3 hc hG h29 h32 h99 hL hz9 hms; clear hL; omega
    | succ n ih3 =>
      intro x3 M1 b3 hc hG h29 h32 h99 hL hz9 hms3
      obtain ⟨hL9, hL9e⟩ : ∃ P : Prop, P = wr_L M x1 M1 := ⟨_, rfl⟩
      rw [← hL9e] at hL
      refine hgo.2.2 _ _ _ _ (fun hM1 _ => ?_)
      have hg0 := hG.2.2 0 (by omega) (by omega) h99
      have t780 := xm_t78 hM1 0 (by omega) (by omega)
      refine hgo.1 19 [2, 33, 41, 169, 194, 205, 421, 349, 365, 381] 169 _ _ _ ?_
      refine And.intro ?_ ?_
      · intro (c1 : 14 ≤ x3)
        show Q 194 [(3, (0, 0, 0, 0, 0)), (2, (2, 82, 0, 0, 0)), (1, (0, 0, 0, 9, x1)), (0, (2, 60, 0, 0, 0))] [] M1
        refine hgo.2.1 194 _ [(3, (0, 0, 0, 9, 0)), (2, (2, 82, 0, 0, 0)), (1, (0, 0, 0, 9, x1)), (0, (2, 60, 0, 0, 0))] _ _ (xa_subI rfl rfl (fun _ _ _ _ => by omega) (xa_subR rfl (xa_subI rfl rfl (fun _ _ _ _ => by omega) (xa_subR rfl xa_sub0)))) ?_
        exact loop4 11 0 M1 (by omega) hc (by first | exact hG | assumption) (by first | omega | (simp [xa_up]; done) | (simp [xa_up]; omega)) (by first | omega | (simp [xa_up]; done) | (simp [xa_up]; omega)) (by omega) (wv_P_0 (hL9e ▸ hL) h99 h29 (fun w w0 w1 => hz9 w w0 (by omega))) (by omega)
      · intro (c1 : x3 < 14)
        refine And.intro (show 0 ≤ x3 ∧ x3 < 14 by omega) ?_
        refine And.intro (show 0 ≤ x3 ∧ x3 < 14 by omega) ?_
        show Q 169 [(3, (0, 0, 1, 15, x3 + 1)), (2, (2, 82, 0, 0, 0)), (1, (0, 0, 0, 9, x1)), (0, (2, 60, 0, 0, 0))] [] (xa_up (xa_up M1 82 x3 0) 83 x3 0)
        refine hgo.2.1 169 _ [(3, (0, 0, 0, 14, x3 + 1)), (2, (2, 82, 0, 0, 0)), (1, (0, 0, 0, 9, x1)), (0, (2, 60, 0, 0, 0))] _ _ (xa_subI rfl rfl (fun _ _ _ _ => by omega) (xa_subR rfl (xa_subI rfl rfl (fun _ _ _ _ => by omega) (xa_subR rfl xa_sub0)))) ?_
        exact ih3 (x3 + 1) (xa_up (xa_up M1 82 x3 0) 83 x3 0) (by omega) (xm_cor_a rfl (xm_cor_a rfl hc)) (by first | exact (xw_G_u (by decide) (xw_G_u (by decide) hG)) | exact (xw_G_u (by decide) (xw_G_u (by decide) (xw_fin (by omega) hAB (by rw [show (10 : Int) = x2 by omega]; exact hw))))) (by first | omega | (simp [xa_up]; done) | (simp [xa_up]; omega)) (by first | omega | (simp [xa_up]; done) | (simp [xa_up]; omega)) (by first | omega | (simp [xa_up]; done) | (simp [xa_up]; omega)) (wr_L_k (fun j => (xa_up_ne (by omega)).trans (xa_up_ne (by omega))) (hL9e ▸ hL)) (fun w w0 w1 => by
          by_cases e : w = x3
          · rw [e]
            exact ⟨(xa_up_ne (by omega)).trans xa_up_eq, xa_up_eq⟩
          · exact ⟨(xa_up_ne (by omega)).trans ((xa_up_ne (by omega)).trans (hz9 w w0 (by omega)).1), (xa_up_ne (by omega)).trans ((xa_up_ne (by omega)).trans (hz9 w w0 (by omega)).2)⟩) (by omega)
  have loop1 : ∀ (n : Nat) (x2 : Int) (M1 : xa_M), 0 ≤ x2 ∧ x2 ≤ 10 → xm_cor M M1 → xw_I M x1 M1 x2 0 → 10 - x2 < (n : Int) → Q 33 [(2, (0, 0, 0, 10, x2)), (1, (0, 0, 0, 9, x1)), (0, (2, 60, 0, 0, 0))] [] M1 := by
    intro n
    induction n with
    | zero => intro x2 M1 b2 hc hw hms; omega
    | succ n ih1 =>
      intro x2 M1 b2 hc hw hms1
      refine hgo.2.2 _ _ _ _ (fun hM1 _ => ?_)
      have b6 := xm_f6 hM1
      have e6 := xm_corf hc 6 (by omega)
      have loop2 : ∀ (n : Nat) (x3 : Int) (M1 : xa_M), 0 ≤ x3 ∧ x3 ≤ 16 → 0 ≤ x2 ∧ x2 ≤ 9 → 0 ≤ x1 ∧ x1 ≤ 9 → xm_cor M M1 → xw_I M x1 M1 x2 x3 → 16 - x3 < (n : Int) → Q 41 [(3, (0, 0, 0, 16, x3)), (2, (0, 0, 0, 9, x2)), (1, (0, 0, 0, 9, x1)), (0, (2, 60, 0, 0, 0))] [] M1 := by
        intro n
        induction n with
        | zero => intro x3 M1 b3 f2 f1 hc hw hms; omega
        | succ n ih2 =>
          intro x3 M1 b3 f2 f1 hc hw hms2
          refine hgo.2.2 _ _ _ _ (fun hM1 _ => ?_)
          have b6 := xm_f6 hM1
          have e6 := xm_corf hc 6 (by omega)
          have e66 := xm_corq hc 66 rfl x3
          have e67 := xm_corq hc 67 rfl x3
          have eA : xw_A M x3 = M1 64 (M1 66 x3) := by rw [e66]; exact (xm_corq hc 64 rfl _).symm
          have eB : xw_B M x3 = M1 64 (M1 67 x3) := by rw [e67]; exact (xm_corq hc 64 rfl _).symm
          have hms := fun h : x3 < M1 60 6 => xm_msh hM1 (xm_Inv_cor hc hI) (by omega) h
          have tA : x3 < M1 60 6 → 0 ≤ M1 78 (M1 64 (M1 66 x3)) := fun h => (xm_t78 hM1 _ (hms h).2.2.1.1 (by have := hms h; omega)).1
          have tB : x3 < M1 60 6 → 0 ≤ M1 78 (M1 64 (M1 67 x3)) := fun h => (xm_t78 hM1 _ (hms h).2.2.2.1.1 (by have := hms h; omega)).1
          refine hgo.1 57 [2, 33, 41, 169, 194, 205, 421, 349, 365, 381] 41 _ _ _ ?_
          refine And.intro ?_ ?_
          · intro (c1 : (M1 60 6) ≤ x3)
            show Q 33 [(2, (0, 0, 1, 10, x2 + 1)), (3, (0, 0, 0, 16, x3)), (1, (0, 0, 0, 9, x1)), (0, (2, 60, 0, 0, 0))] [] M1
            refine hgo.2.1 33 _ [(2, (0, 0, 0, 10, x2 + 1)), (1, (0, 0, 0, 9, x1)), (0, (2, 60, 0, 0, 0))] _ _ (xa_subI rfl rfl (fun _ _ _ _ => by omega) (xa_subI rfl rfl (fun _ _ _ _ => by omega) (xa_subR rfl xa_sub0))) ?_
            exact ih1 (x2 + 1) M1 (by omega) hc (by first | exact hw | exact xw_rd hw (by omega) | exact xw_ini hM1 hX hAB (by omega) hin) (by omega)
          · intro (c1 : x3 < (M1 60 6))
            refine And.intro (show 0 ≤ x3 ∧ x3 < 16 by omega) ?_
            refine And.intro (show 0 ≤ x3 ∧ x3 < 16 by omega) ?_
            show xa_C xm_I A h0 _ 32 [(0, 0, 0, 99, M1 78 (M1 64 (M1 66 x3))), (0, 0, 1, 100, (M1 78 (M1 64 (M1 67 x3))) + 1)] M1 _
            refine ct_min 0 99 (by decide) (by decide) (by decide) (fun r2 br2 er2 => ?_)
            show xa_C xm_I A h0 _ 32 [(0, 0, 0, 99, (xa_up M1 78 (M1 64 (M1 66 x3)) r2) 78 (M1 64 (M1 67 x3))), (0, 0, 1, 100, ((xa_up M1 78 (M1 64 (M1 66 x3)) r2) 78 (M1 64 (M1 66 x3))) + 1)] (xa_up M1 78 (M1 64 (M1 66 x3)) r2) _
            refine ct_min 0 99 (by decide) (by decide) (by decide) (fun r3 br3 er3 => ?_)
            show Q 41 [(3, (0, 0, 1, 17, x3 + 1)), (5, (0, 0, 0, 9, M1 64 (M1 67 x3))), (4, (0, 0, 0, 9, M1 64 (M1 66 x3))), (2, (0, 0, 0, 9, x2)), (1, (0, 0, 0, 9, x1)), (0, (2, 60, 0, 0, 0))] [] (xa_up (xa_up M1 78 (M1 64 (M1 66 x3)) r2) 78 (M1 64 (M1 67 x3)) r3)
            refine hgo.2.1 41 _ [(3, (0, 0, 0, 16, x3 + 1)), (2, (0, 0, 0, 9, x2)), (1, (0, 0, 0, 9, x1)), (0, (2, 60, 0, 0, 0))] _ _ (xa_subI rfl rfl (fun _ _ _ _ => by omega) (xa_subI rfl rfl (fun _ _ _ _ => by omega) (xa_subI rfl rfl (fun _ _ _ _ => by omega) (xa_subR rfl xa_sub0)))) ?_
            exact ih2 (x3 + 1) (xa_up (xa_up M1 78 (M1 64 (M1 66 x3)) r2) 78 (M1 64 (M1 67 x3)) r3) (by omega) (by omega) (by omega) (xm_cor_a rfl (xm_cor_a rfl hc)) (xw_two hw (by omega) eA eB (by omega) (by omega) (by omega) (by have uu : xa_up M1 78 (M1 64 (M1 66 x3)) r2 78 (M1 64 (M1 66 x3)) = r2 := (by rw [xw_up, if_pos rfl]); omega)) (by omega)
      refine hgo.1 25 [2, 33, 41, 169, 194, 205, 421, 349, 365, 381] 33 _ _ _ ?_
      refine And.intro ?_ ?_
      · intro (c1 : 10 ≤ x2)
        refine And.intro ?_ ?_
        · intro (c2 : (M1 78 0) < 99)
          show Q 169 [(3, (0, 0, 0, 0, 0)), (2, (2, 82, 0, 0, 0)), (1, (0, 0, 0, 9, x1)), (0, (2, 60, 0, 0, 0))] [] (xa_up (xa_up M1 60 29 0) 60 32 0)
          refine hgo.2.1 169 _ [(3, (0, 0, 0, 14, 0)), (2, (2, 82, 0, 0, 0)), (1, (0, 0, 0, 9, x1)), (0, (2, 60, 0, 0, 0))] _ _ (xa_subI rfl rfl (fun _ _ _ _ => by omega) (xa_subR rfl (xa_subI rfl rfl (fun _ _ _ _ => by omega) (xa_subR rfl xa_sub0)))) ?_
          exact loop3 15 0 (xa_up (xa_up M1 60 29 0) 60 32 0) (by omega) (xm_cor_f (by omega) (xm_cor_f (by omega) hc)) (by first | exact (xw_G_u (by decide) (xw_G_u (by decide) hG)) | exact (xw_G_u (by decide) (xw_G_u (by decide) (xw_fin (by omega) hAB (by rw [show (10 : Int) = x2 by omega]; exact hw))))) (by first | omega | (simp [xa_up]; done) | (simp [xa_up]; omega)) (by first | omega | (simp [xa_up]; done) | (simp [xa_up]; omega)) (by first | omega | (simp [xa_up]; done) | (simp [xa_up]; omega)) (wr_L_k (M1 := M1) (fun j => (xa_up_ne (by omega)).trans (xa_up_ne (by omega))) (wr_L_of (by omega) hAB (by rw [show (10 : Int) = x2 by omega]; exact hw))) (fun w w0 w1 => by omega) (by omega)
        · intro (c2 : 99 ≤ (M1 78 0))
          show xa_wk post (some (0, 0, 0, 0, 0)) M1
          exact xa_wkI 0 rfl (fun _ _ => by omega) (k 0 _ (Or.inl rfl) hc (fun e => absurd e (by decide)) ⟨wr_L_of (by omega) hAB (by rw [show (10 : Int) = x2 by omega]; exact hw), Or.inr ⟨rfl, c2⟩⟩)
      · intro (c1 : x2 < 10)
        show Q 41 [(3, (0, 0, 0, 0, 0)), (2, (0, 0, 0, 10, x2)), (1, (0, 0, 0, 9, x1)), (0, (2, 60, 0, 0, 0))] [] M1
        refine hgo.2.1 41 _ [(3, (0, 0, 0, 16, 0)), (2, (0, 0, 0, 9, x2)), (1, (0, 0, 0, 9, x1)), (0, (2, 60, 0, 0, 0))] _ _ (xa_subI rfl rfl (fun _ _ _ _ => by omega) (xa_subI rfl rfl (fun _ _ _ _ => by omega) (xa_subI rfl rfl (fun _ _ _ _ => by omega) (xa_subR rfl xa_sub0)))) ?_
        exact loop2 17 0 M1 (by omega) (by omega) (by omega) hc hw (by omega)
  have loop0 : ∀ (n : Nat) (x2 : Int) (M1 : xa_M), 0 ≤ x2 ∧ x2 ≤ 10 → xm_cor M M1 → (∀ i, 0 ≤ i → i < x2 → M1 78 i = if i = x1 then 0 else 99) → 10 - x2 < (n : Int) → Q 2 [(2, (0, 0, 0, 10, x2)), (1, (0, 0, 0, 9, x1)), (0, (2, 60, 0, 0, 0))] [] M1 := by
    intro n
    induction n with
    | zero => intro x2 M1 b2 hc hin hms; omega
    | succ n ih0 =>
      intro x2 M1 b2 hc hin hms0
      refine hgo.2.2 _ _ _ _ (fun hM1 _ => ?_)
      refine hgo.1 19 [2, 33, 41, 169, 194, 205, 421, 349, 365, 381] 2 _ _ _ ?_
      refine And.intro ?_ ?_
      · intro (c1 : 10 ≤ x2)
        show Q 33 [(2, (0, 0, 0, 0, 0)), (1, (0, 0, 0, 9, x1)), (0, (2, 60, 0, 0, 0))] [] M1
        refine hgo.2.1 33 _ [(2, (0, 0, 0, 10, 0)), (1, (0, 0, 0, 9, x1)), (0, (2, 60, 0, 0, 0))] _ _ (xa_subI rfl rfl (fun _ _ _ _ => by omega) (xa_subI rfl rfl (fun _ _ _ _ => by omega) (xa_subR rfl xa_sub0))) ?_
        exact loop1 11 0 M1 (by omega) hc (by first | exact hw | exact xw_rd hw (by omega) | exact xw_ini hM1 hX hAB (by omega) hin) (by omega)
      · intro (c1 : x2 < 10)
        refine And.intro ?_ ?_
        · intro (c2 : ¬ x2 = x1)
          refine And.intro (show 0 ≤ x2 ∧ x2 < 10 by omega) ?_
          show Q 2 [(2, (0, 0, 1, 11, x2 + 1)), (1, (0, 0, 0, 9, x1)), (0, (2, 60, 0, 0, 0))] [] (xa_up M1 78 x2 99)
          refine hgo.2.1 2 _ [(2, (0, 0, 0, 10, x2 + 1)), (1, (0, 0, 0, 9, x1)), (0, (2, 60, 0, 0, 0))] _ _ (xa_subI rfl rfl (fun _ _ _ _ => by omega) (xa_subI rfl rfl (fun _ _ _ _ => by omega) (xa_subR rfl xa_sub0))) ?_
          exact ih0 (x2 + 1) (xa_up M1 78 x2 99) (by omega) (xm_cor_a rfl hc) (fun i i0 i1 => by rw [xw_up]; by_cases e : i = x2; (rw [if_pos e, if_neg (show ¬ i = x1 by omega)]); (rw [if_neg e]; exact hin i i0 (by omega))) (by omega)
        · intro (c2 : x2 = x1)
          refine And.intro (show 0 ≤ x2 ∧ x2 < 10 by omega) ?_
          show Q 2 [(2, (0, 0, 1, 11, x2 + 1)), (1, (0, 0, 0, 9, x1)), (0, (2, 60, 0, 0, 0))] [] (xa_up M1 78 x2 0)
          refine hgo.2.1 2 _ [(2, (0, 0, 0, 10, x2 + 1)), (1, (0, 0, 0, 9, x1)), (0, (2, 60, 0, 0, 0))] _ _ (xa_subI rfl rfl (fun _ _ _ _ => by omega) (xa_subI rfl rfl (fun _ _ _ _ => by omega) (xa_subR rfl xa_sub0))) ?_
          exact ih0 (x2 + 1) (xa_up M1 78 x2 0) (by omega) (xm_cor_a rfl hc) (fun i i0 i1 => by rw [xw_up]; by_cases e : i = x2; (rw [if_pos e, if_pos (show i = x1 by omega)]); (rw [if_neg e]; exact hin i i0 (by omega))) (by omega)
  refine hgo.1 7 [2, 33, 41, 169, 194, 205, 421, 349, 365, 381] 0 _ _ _ ?_
  show Q 2 [(2, (0, 0, 0, 0, 0)), (0, (2, 60, 0, 0, 0)), (1, (0, 0, 0, 9, x1))] [] M
  refine hgo.2.1 2 _ [(2, (0, 0, 0, 10, 0)), (1, (0, 0, 0, 9, x1)), (0, (2, 60, 0, 0, 0))] _ _ (xa_subI rfl rfl (fun _ _ _ _ => by omega) (xa_subI rfl rfl (fun _ _ _ _ => by omega) (xa_subR rfl xa_sub0))) ?_
  exact loop0 11 0 M (by omega) xm_cor_r (fun i i0 i1 => by omega) (by omega)
