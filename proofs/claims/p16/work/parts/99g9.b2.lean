-- lines
set_option maxRecDepth 20000
theorem cx_18_51 {b : Bool} {A : Nat → Nat} {h0 : g_H} {d : Nat} {M : xa_M} {post : Option xa_V → xa_M → Prop} {l1 u1 l2 u2 : Int} {i v : Int} (h1 : 0 ≤ i ∧ i < 8) (k1 : post none (xa_up M 51 i v)) : xa_C (xl_I b) A h0 (d + 1) 18 [(2, 51, 0, 0, 0), (0, 0, l1, u1, i), (0, 0, l2, u2, v)] M post := by
  refine xa_C_arg [(2, 51, 0, 0, 0), (0, 0, (-2147483648), 2147483647, i), (0, 0, (-2147483648), 2147483647, v)] (xa_svR (xa_svI (fun _ _ _ _ => by omega) (xa_svI (fun _ _ _ _ => by omega) xa_sv0))) ?_
  refine xa_meth (Q0 := (3, 0, false, 0, 0, 11)) (by decide +kernel) ⟨rfl, rfl⟩ (full := s_c_18) rfl rfl ?_
  intro hM hv Q hgo
  refine hgo.1 15 [] 0 _ _ _ ?_
  refine And.intro ?_ ?_
  · intro (c1 : i < 0)
    show post none M
    exact absurd h1 (by omega)
  · intro (c1 : 0 ≤ i)
    refine And.intro ?_ ?_
    · intro (c2 : 8 ≤ i)
      show post none M
      exact absurd h1 (by omega)
    · intro (c2 : i < 8)
      refine And.intro (show 0 ≤ i ∧ i < 8 by omega) ?_
      show post none (xa_up M 51 i v)
      exact k1
theorem cx_18_53 {b : Bool} {A : Nat → Nat} {h0 : g_H} {d : Nat} {M : xa_M} {post : Option xa_V → xa_M → Prop} {l1 u1 l2 u2 : Int} {i v : Int} (h1 : 0 ≤ i ∧ i < 8) (k1 : post none (xa_up M 53 i v)) : xa_C (xl_I b) A h0 (d + 1) 18 [(2, 53, 0, 0, 0), (0, 0, l1, u1, i), (0, 0, l2, u2, v)] M post := by
  refine xa_C_arg [(2, 53, 0, 0, 0), (0, 0, (-2147483648), 2147483647, i), (0, 0, (-2147483648), 2147483647, v)] (xa_svR (xa_svI (fun _ _ _ _ => by omega) (xa_svI (fun _ _ _ _ => by omega) xa_sv0))) ?_
  refine xa_meth (Q0 := (3, 0, false, 0, 0, 11)) (by decide +kernel) ⟨rfl, rfl⟩ (full := s_c_18) rfl rfl ?_
  intro hM hv Q hgo
  refine hgo.1 15 [] 0 _ _ _ ?_
  refine And.intro ?_ ?_
  · intro (c1 : i < 0)
    show post none M
    exact absurd h1 (by omega)
  · intro (c1 : 0 ≤ i)
    refine And.intro ?_ ?_
    · intro (c2 : 8 ≤ i)
      show post none M
      exact absurd h1 (by omega)
    · intro (c2 : i < 8)
      refine And.intro (show 0 ≤ i ∧ i < 8 by omega) ?_
      show post none (xa_up M 53 i v)
      exact k1
theorem cx_18_52 {b : Bool} {A : Nat → Nat} {h0 : g_H} {d : Nat} {M : xa_M} {post : Option xa_V → xa_M → Prop} {l1 u1 l2 u2 : Int} {i v : Int} (h1 : 0 ≤ i ∧ i < 8) (k1 : post none (xa_up M 52 i v)) : xa_C (xl_I b) A h0 (d + 1) 18 [(2, 52, 0, 0, 0), (0, 0, l1, u1, i), (0, 0, l2, u2, v)] M post := by
  refine xa_C_arg [(2, 52, 0, 0, 0), (0, 0, (-2147483648), 2147483647, i), (0, 0, (-2147483648), 2147483647, v)] (xa_svR (xa_svI (fun _ _ _ _ => by omega) (xa_svI (fun _ _ _ _ => by omega) xa_sv0))) ?_
  refine xa_meth (Q0 := (3, 0, false, 0, 0, 11)) (by decide +kernel) ⟨rfl, rfl⟩ (full := s_c_18) rfl rfl ?_
  intro hM hv Q hgo
  refine hgo.1 15 [] 0 _ _ _ ?_
  refine And.intro ?_ ?_
  · intro (c1 : i < 0)
    show post none M
    exact absurd h1 (by omega)
  · intro (c1 : 0 ≤ i)
    refine And.intro ?_ ?_
    · intro (c2 : 8 ≤ i)
      show post none M
      exact absurd h1 (by omega)
    · intro (c2 : i < 8)
      refine And.intro (show 0 ≤ i ∧ i < 8 by omega) ?_
      show post none (xa_up M 52 i v)
      exact k1
theorem cx_116_50 {b : Bool} {A : Nat → Nat} {h0 : g_H} {d : Nat} {M : xa_M} {post : Option xa_V → xa_M → Prop} {T : Int → Int} {l1 u1 l2 u2 e x2 : Int} (hT : (∀ i, 0 ≤ i → i < 80 → M 31 i = T i)) (he : 0 ≤ e ∧ e ≤ 60 ∧ e ≤ M 30 1 ∧ M 30 1 ≤ 80) (hp : 0 ≤ M 50 5 ∧ M 50 5 ≤ e) (hx : 0 ≤ x2 ∧ x2 < 8) (k : ∀ M1 : xa_M, (∀ q j, ¬ (q = 50 ∧ 4 ≤ j ∧ j ≤ 7) → ¬ ((q = 51 ∨ q = 52 ∨ q = 53) ∧ j = x2) → M1 q j = M q j) → bk_L T e (M 50 5) (M1 50 7) (M1 51 x2) (M1 52 x2) (M1 53 x2) (M1 50 5) → M1 50 4 = x2 + 1 → post none M1) : xa_C (xl_I b) A h0 (d + 5) 116 [(2, 50, 0, 0, 0), (2, 30, 0, 0, 0), (0, 0, l1, u1, e), (0, 0, l2, u2, x2)] M post := by
  refine xa_C_arg [(2, 50, 0, 0, 0), (2, 30, 0, 0, 0), (0, 0, 0, 60, e), (0, 0, 0, 7, x2)] (xa_svR (xa_svR (xa_svI (fun _ _ _ _ => by omega) (xa_svI (fun _ _ _ _ => by omega) xa_sv0)))) ?_
  refine xa_meth (Q0 := (4, 0, false, 0, 0, 0)) (by decide +kernel) ⟨rfl, rfl⟩ (full := s_c_116) rfl rfl ?_
  intro hM hv Q hgo
  refine hgo.1 91 [] 0 _ _ _ ?_
  show xa_C (xl_I b) A h0 _ 117 [(2, 50, 0, 0, 0), (2, 30, 0, 0, 0), (0, 0, 0, 60, e)] M _
  refine cx_117_50 (fun x x0 x9 => (hT x x0 x9)) (show 0 ≤ e ∧ e ≤ 60 ∧ e ≤ (M 30 1) ∧ (M 30 1) ≤ 80 by omega) (show 0 ≤ (M 50 5) ∧ (M 50 5) ≤ e by omega) ?_
  intro M101 (i1 : ∀ q j, ¬ (q = 50 ∧ (j = 5 ∨ j = 6 ∨ j = 7)) → M101 q j = M q j) (i2 : bk_N T e (M 50 5) (M101 50 6) (M101 50 7) (M101 50 5))
  have hTM101 : ∀ x, 0 ≤ x → x < 80 → M101 31 x = T x := fun x x0 x9 => (i1 31 x (by omega)).trans (hT x x0 x9)
  have eM101 : M101 30 1 = M 30 1 := (i1 30 1 (by decide)).trans (rfl)
  have fM101 : ∀ q j, ¬ (q = 50 ∧ 4 ≤ j ∧ j ≤ 7) → ¬ ((q = 51 ∨ q = 52 ∨ q = 53) ∧ j = x2) → M101 q j = M q j := fun q j h1 h2 => (i1 q j (by omega)).trans (rfl)
  have nM101 := bk_N_b i2
  have wM101 : xa_w32 ((M101 50 5) + 1) = (M101 50 5) + 1 := xa_w32_id (by omega) (by omega)
  show xa_C (xl_I b) A h0 _ 18 [(2, 51, 0, 0, 0), (0, 0, 0, 7, x2), (0, 0, (-2147483648), 2147483647, M101 50 6)] M101 _
  refine cx_18_51 (show 0 ≤ x2 ∧ x2 < 8 by omega) ?_
  refine And.intro ?_ ?_
  · intro (c3 : (M101 50 7) = 0)
    refine And.intro ?_ ?_
    · intro (c4 : (M101 50 7) = 0)
      show xa_C (xl_I b) A h0 _ 18 [(2, 53, 0, 0, 0), (0, 0, 0, 7, x2), (0, 0, 0, 0, 0)] (xa_up M101 51 x2 (M101 50 6)) _
      refine cx_18_53 (show 0 ≤ x2 ∧ x2 < 8 by omega) ?_
      refine And.intro ?_ ?_
      · intro (c5 : (M101 50 7) = 0)
        show post none (xa_up (xa_up (xa_up M101 51 x2 (M101 50 6)) 53 x2 0) 50 4 (x2 + 1))
        have tM101 := hTM101 (M101 50 5)
        refine k _ (fun q j h1 h2 => ?_) ?_ ?_
        · exact (xa_up_ne (by omega)).trans ((xa_up_ne (by omega)).trans ((xa_up_ne (by omega)).trans (fM101 q j h1 h2)))
        · show bk_L T e (M 50 5) (M101 50 7) ((xa_up (xa_up (xa_up M101 51 x2 (M101 50 6)) 53 x2 0) 50 4 (x2 + 1)) 51 x2) ((xa_up (xa_up (xa_up M101 51 x2 (M101 50 6)) 53 x2 0) 50 4 (x2 + 1)) 52 x2) ((xa_up (xa_up (xa_up M101 51 x2 (M101 50 6)) 53 x2 0) 50 4 (x2 + 1)) 53 x2) (M101 50 5)
          exact ⟨_, _, _, i2, by omega⟩
        · show x2 + 1 = x2 + 1
          rfl
      · intro (c5 : ¬ (M101 50 7) = 0)
        exfalso
        omega
    · intro (c4 : ¬ (M101 50 7) = 0)
      exfalso
      omega
  · intro (c3 : ¬ (M101 50 7) = 0)
    refine And.intro ?_ ?_
    · intro (c6 : e ≤ (M101 50 5))
      refine And.intro ?_ ?_
      · intro (c7 : 0 = 0)
        refine And.intro ?_ ?_
        · intro (c8 : 0 = 0)
          show xa_C (xl_I b) A h0 _ 18 [(2, 53, 0, 0, 0), (0, 0, 0, 7, x2), (0, 0, 0, 0, 0)] (xa_up (xa_up (xa_up M101 51 x2 (M101 50 6)) 50 7 0) 50 5 ((M101 50 5) + 0)) _
          refine cx_18_53 (show 0 ≤ x2 ∧ x2 < 8 by omega) ?_
          refine And.intro ?_ ?_
          · intro (c9 : 0 = 0)
            show post none (xa_up (xa_up (xa_up (xa_up (xa_up M101 51 x2 (M101 50 6)) 50 7 0) 50 5 ((M101 50 5) + 0)) 53 x2 0) 50 4 (x2 + 1))
            have tM101 := hTM101 (M101 50 5)
            refine k _ (fun q j h1 h2 => ?_) ?_ ?_
            · exact (xa_up_ne (by omega)).trans ((xa_up_ne (by omega)).trans ((xa_up_ne (by omega)).trans ((xa_up_ne (by omega)).trans ((xa_up_ne (by omega)).trans (fM101 q j h1 h2)))))
            · show bk_L T e (M 50 5) 0 ((xa_up (xa_up (xa_up (xa_up (xa_up M101 51 x2 (M101 50 6)) 50 7 0) 50 5 ((M101 50 5) + 0)) 53 x2 0) 50 4 (x2 + 1)) 51 x2) ((xa_up (xa_up (xa_up (xa_up (xa_up M101 51 x2 (M101 50 6)) 50 7 0) 50 5 ((M101 50 5) + 0)) 53 x2 0) 50 4 (x2 + 1)) 52 x2) ((xa_up (xa_up (xa_up (xa_up (xa_up M101 51 x2 (M101 50 6)) 50 7 0) 50 5 ((M101 50 5) + 0)) 53 x2 0) 50 4 (x2 + 1)) 53 x2) ((M101 50 5) + 0)
              exact ⟨_, _, _, i2, by omega⟩
            · show x2 + 1 = x2 + 1
              rfl
          · intro (c9 : ¬ 0 = 0)
            exfalso
            omega
        · intro (c8 : ¬ 0 = 0)
          exfalso
          omega
      · intro (c7 : ¬ 0 = 0)
        exfalso
        omega
    · intro (c6 : (M101 50 5) < e)
      show xa_C (xl_I b) A h0 _ 119 [(2, 30, 0, 0, 0), (0, 0, (-2147483648), 2147483647, M101 50 5)] (xa_up M101 51 x2 (M101 50 6)) _
      refine cg_119 (show 0 ≤ (M101 30 1) ∧ (M101 30 1) ≤ 80 by omega) ?_ ?_
      · intro (i10 : 0 ≤ (M101 50 5) ∧ (M101 50 5) < (M101 30 1))
        refine And.intro ?_ ?_
        · intro (c11 : ¬ (M101 31 (M101 50 5)) = 58)
          refine And.intro ?_ ?_
          · intro (c12 : 0 = 0)
            refine And.intro ?_ ?_
            · intro (c13 : 0 = 0)
              show xa_C (xl_I b) A h0 _ 18 [(2, 53, 0, 0, 0), (0, 0, 0, 7, x2), (0, 0, 0, 0, 0)] (xa_up (xa_up (xa_up M101 51 x2 (M101 50 6)) 50 7 0) 50 5 ((M101 50 5) + 0)) _
              refine cx_18_53 (show 0 ≤ x2 ∧ x2 < 8 by omega) ?_
              refine And.intro ?_ ?_
              · intro (c14 : 0 = 0)
                show post none (xa_up (xa_up (xa_up (xa_up (xa_up M101 51 x2 (M101 50 6)) 50 7 0) 50 5 ((M101 50 5) + 0)) 53 x2 0) 50 4 (x2 + 1))
                have tM101 := hTM101 (M101 50 5)
                refine k _ (fun q j h1 h2 => ?_) ?_ ?_
                · exact (xa_up_ne (by omega)).trans ((xa_up_ne (by omega)).trans ((xa_up_ne (by omega)).trans ((xa_up_ne (by omega)).trans ((xa_up_ne (by omega)).trans (fM101 q j h1 h2)))))
                · show bk_L T e (M 50 5) 0 ((xa_up (xa_up (xa_up (xa_up (xa_up M101 51 x2 (M101 50 6)) 50 7 0) 50 5 ((M101 50 5) + 0)) 53 x2 0) 50 4 (x2 + 1)) 51 x2) ((xa_up (xa_up (xa_up (xa_up (xa_up M101 51 x2 (M101 50 6)) 50 7 0) 50 5 ((M101 50 5) + 0)) 53 x2 0) 50 4 (x2 + 1)) 52 x2) ((xa_up (xa_up (xa_up (xa_up (xa_up M101 51 x2 (M101 50 6)) 50 7 0) 50 5 ((M101 50 5) + 0)) 53 x2 0) 50 4 (x2 + 1)) 53 x2) ((M101 50 5) + 0)
                  exact ⟨_, _, _, i2, by omega⟩
                · show x2 + 1 = x2 + 1
                  rfl
              · intro (c14 : ¬ 0 = 0)
                exfalso
                omega
            · intro (c13 : ¬ 0 = 0)
              exfalso
              omega
          · intro (c12 : ¬ 0 = 0)
            exfalso
            omega
        · intro (c11 : (M101 31 (M101 50 5)) = 58)
          refine And.intro ?_ ?_
          · intro (c15 : 1 = 0)
            exfalso
            omega
          · intro (c15 : ¬ 1 = 0)
            refine And.intro ?_ ?_
            · intro (c16 : 1 = 0)
              exfalso
              omega
            · intro (c16 : ¬ 1 = 0)
              show xa_C (xl_I b) A h0 _ 117 [(2, 50, 0, 0, 0), (2, 30, 0, 0, 0), (0, 0, 0, 60, e)] (xa_up (xa_up (xa_up M101 51 x2 (M101 50 6)) 50 7 1) 50 5 (xa_w32 ((M101 50 5) + 1))) _
              refine cx_117_50 (fun x x0 x9 => (xa_up_ne (by omega)).trans ((xa_up_ne (by omega)).trans ((xa_up_ne (by omega)).trans ((hTM101 x x0 x9))))) (show 0 ≤ e ∧ e ≤ 60 ∧ e ≤ (M101 30 1) ∧ (M101 30 1) ≤ 80 by omega) (show 0 ≤ (xa_w32 ((M101 50 5) + 1)) ∧ (xa_w32 ((M101 50 5) + 1)) ≤ e by omega) ?_
              intro M102 (i17 : ∀ q j, ¬ (q = 50 ∧ (j = 5 ∨ j = 6 ∨ j = 7)) → M102 q j = (xa_up (xa_up (xa_up M101 51 x2 (M101 50 6)) 50 7 1) 50 5 (xa_w32 ((M101 50 5) + 1))) q j) (i18 : bk_N T e (xa_w32 ((M101 50 5) + 1)) (M102 50 6) (M102 50 7) (M102 50 5))
              have hTM102 : ∀ x, 0 ≤ x → x < 80 → M102 31 x = T x := fun x x0 x9 => (i17 31 x (by omega)).trans ((xa_up_ne (by omega)).trans ((xa_up_ne (by omega)).trans ((xa_up_ne (by omega)).trans (hTM101 x x0 x9))))
              have eM102 : M102 30 1 = M 30 1 := (i17 30 1 (by decide)).trans ((xa_up_ne (by omega)).trans ((xa_up_ne (by omega)).trans ((xa_up_ne (by omega)).trans (eM101))))
              have fM102 : ∀ q j, ¬ (q = 50 ∧ 4 ≤ j ∧ j ≤ 7) → ¬ ((q = 51 ∨ q = 52 ∨ q = 53) ∧ j = x2) → M102 q j = M q j := fun q j h1 h2 => (i17 q j (by omega)).trans ((xa_up_ne (by omega)).trans ((xa_up_ne (by omega)).trans ((xa_up_ne (by omega)).trans (fM101 q j h1 h2))))
              have nM102 := bk_N_b i18
              have wM102 : xa_w32 ((M102 50 5) + 1) = (M102 50 5) + 1 := xa_w32_id (by omega) (by omega)
              have v1_of_M102 : M102 51 x2 = M101 50 6 := (i17 51 x2 (by omega)).trans (by simp [xa_up])
              show xa_C (xl_I b) A h0 _ 18 [(2, 52, 0, 0, 0), (0, 0, 0, 7, x2), (0, 0, (-2147483648), 2147483647, M102 50 6)] M102 _
              refine cx_18_52 (show 0 ≤ x2 ∧ x2 < 8 by omega) ?_
              show xa_C (xl_I b) A h0 _ 18 [(2, 53, 0, 0, 0), (0, 0, 0, 7, x2), (0, 0, 0, 0, 0)] (xa_up M102 52 x2 (M102 50 6)) _
              refine cx_18_53 (show 0 ≤ x2 ∧ x2 < 8 by omega) ?_
              refine And.intro ?_ ?_
              · intro (c19 : (M102 50 7) = 0)
                show post none (xa_up (xa_up (xa_up M102 52 x2 (M102 50 6)) 53 x2 0) 50 4 (x2 + 1))
                have w1 : xa_w32 ((M101 50 5) + 1) = (M101 50 5) + 1 := xa_w32_id (by omega) (by omega)
                rw [w1] at i17 i18
                have tM101 := hTM101 (M101 50 5)
                have tM102 := hTM102 (M102 50 5)
                refine k _ (fun q j h1 h2 => ?_) ?_ ?_
                · exact (xa_up_ne (by omega)).trans ((xa_up_ne (by omega)).trans ((xa_up_ne (by omega)).trans (fM102 q j h1 h2)))
                · show bk_L T e (M 50 5) (M102 50 7) ((xa_up (xa_up (xa_up M102 52 x2 (M102 50 6)) 53 x2 0) 50 4 (x2 + 1)) 51 x2) ((xa_up (xa_up (xa_up M102 52 x2 (M102 50 6)) 53 x2 0) 50 4 (x2 + 1)) 52 x2) ((xa_up (xa_up (xa_up M102 52 x2 (M102 50 6)) 53 x2 0) 50 4 (x2 + 1)) 53 x2) (M102 50 5)
                  have v1 : (xa_up (xa_up (xa_up M102 52 x2 (M102 50 6)) 53 x2 0) 50 4 (x2 + 1)) 51 x2 = M101 50 6 := (xa_up_ne (by omega)).trans ((xa_up_ne (by omega)).trans ((xa_up_ne (by omega)).trans (v1_of_M102)))
                  have v2 : (xa_up (xa_up (xa_up M102 52 x2 (M102 50 6)) 53 x2 0) 50 4 (x2 + 1)) 52 x2 = M102 50 6 := (xa_up_ne (by omega)).trans ((xa_up_ne (by omega)).trans (xa_up_eq))
                  have v3 : (xa_up (xa_up (xa_up M102 52 x2 (M102 50 6)) 53 x2 0) 50 4 (x2 + 1)) 53 x2 = 0 := (xa_up_ne (by omega)).trans (xa_up_eq)
                  rw [v1, v2, v3]
                  exact ⟨_, _, _, i2, Or.inr (Or.inr ⟨by omega, by omega, by omega, _, _, _, i18, by omega⟩)⟩
                · show x2 + 1 = x2 + 1
                  rfl
              · intro (c19 : ¬ (M102 50 7) = 0)
                refine And.intro ?_ ?_
                · intro (c20 : e ≤ (M102 50 5))
                  show post none (xa_up (xa_up (xa_up M102 52 x2 (M102 50 6)) 53 x2 0) 50 4 (x2 + 1))
                  have w1 : xa_w32 ((M101 50 5) + 1) = (M101 50 5) + 1 := xa_w32_id (by omega) (by omega)
                  rw [w1] at i17 i18
                  have tM101 := hTM101 (M101 50 5)
                  have tM102 := hTM102 (M102 50 5)
                  refine k _ (fun q j h1 h2 => ?_) ?_ ?_
                  · exact (xa_up_ne (by omega)).trans ((xa_up_ne (by omega)).trans ((xa_up_ne (by omega)).trans (fM102 q j h1 h2)))
                  · show bk_L T e (M 50 5) (M102 50 7) ((xa_up (xa_up (xa_up M102 52 x2 (M102 50 6)) 53 x2 0) 50 4 (x2 + 1)) 51 x2) ((xa_up (xa_up (xa_up M102 52 x2 (M102 50 6)) 53 x2 0) 50 4 (x2 + 1)) 52 x2) ((xa_up (xa_up (xa_up M102 52 x2 (M102 50 6)) 53 x2 0) 50 4 (x2 + 1)) 53 x2) (M102 50 5)
                    have v1 : (xa_up (xa_up (xa_up M102 52 x2 (M102 50 6)) 53 x2 0) 50 4 (x2 + 1)) 51 x2 = M101 50 6 := (xa_up_ne (by omega)).trans ((xa_up_ne (by omega)).trans ((xa_up_ne (by omega)).trans (v1_of_M102)))
                    have v2 : (xa_up (xa_up (xa_up M102 52 x2 (M102 50 6)) 53 x2 0) 50 4 (x2 + 1)) 52 x2 = M102 50 6 := (xa_up_ne (by omega)).trans ((xa_up_ne (by omega)).trans (xa_up_eq))
                    have v3 : (xa_up (xa_up (xa_up M102 52 x2 (M102 50 6)) 53 x2 0) 50 4 (x2 + 1)) 53 x2 = 0 := (xa_up_ne (by omega)).trans (xa_up_eq)
                    rw [v1, v2, v3]
                    exact ⟨_, _, _, i2, Or.inr (Or.inr ⟨by omega, by omega, by omega, _, _, _, i18, by omega⟩)⟩
                  · show x2 + 1 = x2 + 1
                    rfl
                · intro (c20 : (M102 50 5) < e)
                  show xa_C (xl_I b) A h0 _ 120 [(2, 30, 0, 0, 0), (0, 0, (-2147483648), 2147483647, M102 50 5)] (xa_up (xa_up M102 52 x2 (M102 50 6)) 53 x2 0) _
                  refine cg_120 (show 0 ≤ (M102 30 1) ∧ (M102 30 1) ≤ 80 by omega) ?_ ?_
                  · intro (i21 : (0 ≤ (M102 50 5) ∧ (M102 50 5) < (M102 30 1)) ∧ 97 ≤ M102 31 (M102 50 5) ∧ M102 31 (M102 50 5) ≤ 122)
                    show xa_C (xl_I b) A h0 _ 119 [(2, 30, 0, 0, 0), (0, 0, (-2147483648), 2147483647, M102 50 5)] (xa_up (xa_up M102 52 x2 (M102 50 6)) 53 x2 0) _
                    refine cg_119 (show 0 ≤ (M102 30 1) ∧ (M102 30 1) ≤ 80 by omega) ?_ ?_
                    · intro (i22 : 0 ≤ (M102 50 5) ∧ (M102 50 5) < (M102 30 1))
                      show xa_C (xl_I b) A h0 _ 18 [(2, 53, 0, 0, 0), (0, 0, 0, 7, x2), (0, 0, (-2147483648), 2147483647, M102 31 (M102 50 5))] (xa_up (xa_up M102 52 x2 (M102 50 6)) 53 x2 0) _
                      refine cx_18_53 (show 0 ≤ x2 ∧ x2 < 8 by omega) ?_
                      show post none (xa_up (xa_up (xa_up (xa_up (xa_up M102 52 x2 (M102 50 6)) 53 x2 0) 53 x2 (M102 31 (M102 50 5))) 50 5 (xa_w32 ((M102 50 5) + 1))) 50 4 (x2 + 1))
                      have w1 : xa_w32 ((M101 50 5) + 1) = (M101 50 5) + 1 := xa_w32_id (by omega) (by omega)
                      rw [w1] at i17 i18
                      have w2 : xa_w32 ((M102 50 5) + 1) = (M102 50 5) + 1 := xa_w32_id (by omega) (by omega)
                      have tM101 := hTM101 (M101 50 5)
                      have tM102 := hTM102 (M102 50 5)
                      refine k _ (fun q j h1 h2 => ?_) ?_ ?_
                      · exact (xa_up_ne (by omega)).trans ((xa_up_ne (by omega)).trans ((xa_up_ne (by omega)).trans ((xa_up_ne (by omega)).trans ((xa_up_ne (by omega)).trans (fM102 q j h1 h2)))))
                      · show bk_L T e (M 50 5) (M102 50 7) ((xa_up (xa_up (xa_up (xa_up (xa_up M102 52 x2 (M102 50 6)) 53 x2 0) 53 x2 (M102 31 (M102 50 5))) 50 5 (xa_w32 ((M102 50 5) + 1))) 50 4 (x2 + 1)) 51 x2) ((xa_up (xa_up (xa_up (xa_up (xa_up M102 52 x2 (M102 50 6)) 53 x2 0) 53 x2 (M102 31 (M102 50 5))) 50 5 (xa_w32 ((M102 50 5) + 1))) 50 4 (x2 + 1)) 52 x2) ((xa_up (xa_up (xa_up (xa_up (xa_up M102 52 x2 (M102 50 6)) 53 x2 0) 53 x2 (M102 31 (M102 50 5))) 50 5 (xa_w32 ((M102 50 5) + 1))) 50 4 (x2 + 1)) 53 x2) (xa_w32 ((M102 50 5) + 1))
                        have v1 : (xa_up (xa_up (xa_up (xa_up (xa_up M102 52 x2 (M102 50 6)) 53 x2 0) 53 x2 (M102 31 (M102 50 5))) 50 5 (xa_w32 ((M102 50 5) + 1))) 50 4 (x2 + 1)) 51 x2 = M101 50 6 := (xa_up_ne (by omega)).trans ((xa_up_ne (by omega)).trans ((xa_up_ne (by omega)).trans ((xa_up_ne (by omega)).trans ((xa_up_ne (by omega)).trans (v1_of_M102)))))
                        have v2 : (xa_up (xa_up (xa_up (xa_up (xa_up M102 52 x2 (M102 50 6)) 53 x2 0) 53 x2 (M102 31 (M102 50 5))) 50 5 (xa_w32 ((M102 50 5) + 1))) 50 4 (x2 + 1)) 52 x2 = M102 50 6 := (xa_up_ne (by omega)).trans ((xa_up_ne (by omega)).trans ((xa_up_ne (by omega)).trans ((xa_up_ne (by omega)).trans (xa_up_eq))))
                        have v3 : (xa_up (xa_up (xa_up (xa_up (xa_up M102 52 x2 (M102 50 6)) 53 x2 0) 53 x2 (M102 31 (M102 50 5))) 50 5 (xa_w32 ((M102 50 5) + 1))) 50 4 (x2 + 1)) 53 x2 = M102 31 (M102 50 5) := (xa_up_ne (by omega)).trans ((xa_up_ne (by omega)).trans (xa_up_eq))
                        rw [v1, v2, v3]
                        exact ⟨_, _, _, i2, Or.inr (Or.inr ⟨by omega, by omega, by omega, _, _, _, i18, by omega⟩)⟩
                      · show x2 + 1 = x2 + 1
                        rfl
                    · intro (i23 : ¬ (0 ≤ (M102 50 5) ∧ (M102 50 5) < (M102 30 1)))
                      exfalso
                      omega
                  · intro (i24 : ¬ ((0 ≤ (M102 50 5) ∧ (M102 50 5) < (M102 30 1)) ∧ 97 ≤ M102 31 (M102 50 5) ∧ M102 31 (M102 50 5) ≤ 122))
                    show post none (xa_up (xa_up (xa_up M102 52 x2 (M102 50 6)) 53 x2 0) 50 4 (x2 + 1))
                    have w1 : xa_w32 ((M101 50 5) + 1) = (M101 50 5) + 1 := xa_w32_id (by omega) (by omega)
                    rw [w1] at i17 i18
                    have tM101 := hTM101 (M101 50 5)
                    have tM102 := hTM102 (M102 50 5)
                    refine k _ (fun q j h1 h2 => ?_) ?_ ?_
                    · exact (xa_up_ne (by omega)).trans ((xa_up_ne (by omega)).trans ((xa_up_ne (by omega)).trans (fM102 q j h1 h2)))
                    · show bk_L T e (M 50 5) (M102 50 7) ((xa_up (xa_up (xa_up M102 52 x2 (M102 50 6)) 53 x2 0) 50 4 (x2 + 1)) 51 x2) ((xa_up (xa_up (xa_up M102 52 x2 (M102 50 6)) 53 x2 0) 50 4 (x2 + 1)) 52 x2) ((xa_up (xa_up (xa_up M102 52 x2 (M102 50 6)) 53 x2 0) 50 4 (x2 + 1)) 53 x2) (M102 50 5)
                      have v1 : (xa_up (xa_up (xa_up M102 52 x2 (M102 50 6)) 53 x2 0) 50 4 (x2 + 1)) 51 x2 = M101 50 6 := (xa_up_ne (by omega)).trans ((xa_up_ne (by omega)).trans ((xa_up_ne (by omega)).trans (v1_of_M102)))
                      have v2 : (xa_up (xa_up (xa_up M102 52 x2 (M102 50 6)) 53 x2 0) 50 4 (x2 + 1)) 52 x2 = M102 50 6 := (xa_up_ne (by omega)).trans ((xa_up_ne (by omega)).trans (xa_up_eq))
                      have v3 : (xa_up (xa_up (xa_up M102 52 x2 (M102 50 6)) 53 x2 0) 50 4 (x2 + 1)) 53 x2 = 0 := (xa_up_ne (by omega)).trans (xa_up_eq)
                      rw [v1, v2, v3]
                      exact ⟨_, _, _, i2, Or.inr (Or.inr ⟨by omega, by omega, by omega, _, _, _, i18, by omega⟩)⟩
                    · show x2 + 1 = x2 + 1
                      rfl
      · intro (i25 : ¬ (0 ≤ (M101 50 5) ∧ (M101 50 5) < (M101 30 1)))
        refine And.intro ?_ ?_
        · intro (c26 : 0 = 0)
          refine And.intro ?_ ?_
          · intro (c27 : 0 = 0)
            show xa_C (xl_I b) A h0 _ 18 [(2, 53, 0, 0, 0), (0, 0, 0, 7, x2), (0, 0, 0, 0, 0)] (xa_up (xa_up (xa_up M101 51 x2 (M101 50 6)) 50 7 0) 50 5 ((M101 50 5) + 0)) _
            refine cx_18_53 (show 0 ≤ x2 ∧ x2 < 8 by omega) ?_
            refine And.intro ?_ ?_
            · intro (c28 : 0 = 0)
              show post none (xa_up (xa_up (xa_up (xa_up (xa_up M101 51 x2 (M101 50 6)) 50 7 0) 50 5 ((M101 50 5) + 0)) 53 x2 0) 50 4 (x2 + 1))
              have tM101 := hTM101 (M101 50 5)
              refine k _ (fun q j h1 h2 => ?_) ?_ ?_
              · exact (xa_up_ne (by omega)).trans ((xa_up_ne (by omega)).trans ((xa_up_ne (by omega)).trans ((xa_up_ne (by omega)).trans ((xa_up_ne (by omega)).trans (fM101 q j h1 h2)))))
              · show bk_L T e (M 50 5) 0 ((xa_up (xa_up (xa_up (xa_up (xa_up M101 51 x2 (M101 50 6)) 50 7 0) 50 5 ((M101 50 5) + 0)) 53 x2 0) 50 4 (x2 + 1)) 51 x2) ((xa_up (xa_up (xa_up (xa_up (xa_up M101 51 x2 (M101 50 6)) 50 7 0) 50 5 ((M101 50 5) + 0)) 53 x2 0) 50 4 (x2 + 1)) 52 x2) ((xa_up (xa_up (xa_up (xa_up (xa_up M101 51 x2 (M101 50 6)) 50 7 0) 50 5 ((M101 50 5) + 0)) 53 x2 0) 50 4 (x2 + 1)) 53 x2) ((M101 50 5) + 0)
                exact ⟨_, _, _, i2, by omega⟩
              · show x2 + 1 = x2 + 1
                rfl
            · intro (c28 : ¬ 0 = 0)
              exfalso
              omega
          · intro (c27 : ¬ 0 = 0)
            exfalso
            omega
        · intro (c26 : ¬ 0 = 0)
          exfalso
          omega
theorem cx_18_56 {b : Bool} {A : Nat → Nat} {h0 : g_H} {d : Nat} {M : xa_M} {post : Option xa_V → xa_M → Prop} {l1 u1 l2 u2 : Int} {i v : Int} (h1 : 0 ≤ i ∧ i < 8) (k1 : post none (xa_up M 56 i v)) : xa_C (xl_I b) A h0 (d + 1) 18 [(2, 56, 0, 0, 0), (0, 0, l1, u1, i), (0, 0, l2, u2, v)] M post := by
  refine xa_C_arg [(2, 56, 0, 0, 0), (0, 0, (-2147483648), 2147483647, i), (0, 0, (-2147483648), 2147483647, v)] (xa_svR (xa_svI (fun _ _ _ _ => by omega) (xa_svI (fun _ _ _ _ => by omega) xa_sv0))) ?_
  refine xa_meth (Q0 := (3, 0, false, 0, 0, 11)) (by decide +kernel) ⟨rfl, rfl⟩ (full := s_c_18) rfl rfl ?_
  intro hM hv Q hgo
  refine hgo.1 15 [] 0 _ _ _ ?_
  refine And.intro ?_ ?_
  · intro (c1 : i < 0)
    show post none M
    exact absurd h1 (by omega)
  · intro (c1 : 0 ≤ i)
    refine And.intro ?_ ?_
    · intro (c2 : 8 ≤ i)
      show post none M
      exact absurd h1 (by omega)
    · intro (c2 : i < 8)
      refine And.intro (show 0 ≤ i ∧ i < 8 by omega) ?_
      show post none (xa_up M 56 i v)
      exact k1
theorem cx_18_58 {b : Bool} {A : Nat → Nat} {h0 : g_H} {d : Nat} {M : xa_M} {post : Option xa_V → xa_M → Prop} {l1 u1 l2 u2 : Int} {i v : Int} (h1 : 0 ≤ i ∧ i < 8) (k1 : post none (xa_up M 58 i v)) : xa_C (xl_I b) A h0 (d + 1) 18 [(2, 58, 0, 0, 0), (0, 0, l1, u1, i), (0, 0, l2, u2, v)] M post := by
  refine xa_C_arg [(2, 58, 0, 0, 0), (0, 0, (-2147483648), 2147483647, i), (0, 0, (-2147483648), 2147483647, v)] (xa_svR (xa_svI (fun _ _ _ _ => by omega) (xa_svI (fun _ _ _ _ => by omega) xa_sv0))) ?_
  refine xa_meth (Q0 := (3, 0, false, 0, 0, 11)) (by decide +kernel) ⟨rfl, rfl⟩ (full := s_c_18) rfl rfl ?_
  intro hM hv Q hgo
  refine hgo.1 15 [] 0 _ _ _ ?_
  refine And.intro ?_ ?_
  · intro (c1 : i < 0)
    show post none M
    exact absurd h1 (by omega)
  · intro (c1 : 0 ≤ i)
    refine And.intro ?_ ?_
    · intro (c2 : 8 ≤ i)
      show post none M
      exact absurd h1 (by omega)
    · intro (c2 : i < 8)
      refine And.intro (show 0 ≤ i ∧ i < 8 by omega) ?_
      show post none (xa_up M 58 i v)
      exact k1
theorem cx_18_57 {b : Bool} {A : Nat → Nat} {h0 : g_H} {d : Nat} {M : xa_M} {post : Option xa_V → xa_M → Prop} {l1 u1 l2 u2 : Int} {i v : Int} (h1 : 0 ≤ i ∧ i < 8) (k1 : post none (xa_up M 57 i v)) : xa_C (xl_I b) A h0 (d + 1) 18 [(2, 57, 0, 0, 0), (0, 0, l1, u1, i), (0, 0, l2, u2, v)] M post := by
  refine xa_C_arg [(2, 57, 0, 0, 0), (0, 0, (-2147483648), 2147483647, i), (0, 0, (-2147483648), 2147483647, v)] (xa_svR (xa_svI (fun _ _ _ _ => by omega) (xa_svI (fun _ _ _ _ => by omega) xa_sv0))) ?_
  refine xa_meth (Q0 := (3, 0, false, 0, 0, 11)) (by decide +kernel) ⟨rfl, rfl⟩ (full := s_c_18) rfl rfl ?_
  intro hM hv Q hgo
  refine hgo.1 15 [] 0 _ _ _ ?_
  refine And.intro ?_ ?_
  · intro (c1 : i < 0)
    show post none M
    exact absurd h1 (by omega)
  · intro (c1 : 0 ≤ i)
    refine And.intro ?_ ?_
    · intro (c2 : 8 ≤ i)
      show post none M
      exact absurd h1 (by omega)
    · intro (c2 : i < 8)
      refine And.intro (show 0 ≤ i ∧ i < 8 by omega) ?_
      show post none (xa_up M 57 i v)
      exact k1
theorem cx_116_55 {b : Bool} {A : Nat → Nat} {h0 : g_H} {d : Nat} {M : xa_M} {post : Option xa_V → xa_M → Prop} {T : Int → Int} {l1 u1 l2 u2 e x2 : Int} (hT : (∀ i, 0 ≤ i → i < 80 → M 31 i = T i)) (he : 0 ≤ e ∧ e ≤ 60 ∧ e ≤ M 30 1 ∧ M 30 1 ≤ 80) (hp : 0 ≤ M 55 5 ∧ M 55 5 ≤ e) (hx : 0 ≤ x2 ∧ x2 < 8) (k : ∀ M1 : xa_M, (∀ q j, ¬ (q = 55 ∧ 4 ≤ j ∧ j ≤ 7) → ¬ ((q = 56 ∨ q = 57 ∨ q = 58) ∧ j = x2) → M1 q j = M q j) → bk_L T e (M 55 5) (M1 55 7) (M1 56 x2) (M1 57 x2) (M1 58 x2) (M1 55 5) → M1 55 4 = x2 + 1 → post none M1) : xa_C (xl_I b) A h0 (d + 5) 116 [(2, 55, 0, 0, 0), (2, 30, 0, 0, 0), (0, 0, l1, u1, e), (0, 0, l2, u2, x2)] M post := by
  refine xa_C_arg [(2, 55, 0, 0, 0), (2, 30, 0, 0, 0), (0, 0, 0, 60, e), (0, 0, 0, 7, x2)] (xa_svR (xa_svR (xa_svI (fun _ _ _ _ => by omega) (xa_svI (fun _ _ _ _ => by omega) xa_sv0)))) ?_
  refine xa_meth (Q0 := (4, 0, false, 0, 0, 0)) (by decide +kernel) ⟨rfl, rfl⟩ (full := s_c_116) rfl rfl ?_
  intro hM hv Q hgo
  refine hgo.1 91 [] 0 _ _ _ ?_
  show xa_C (xl_I b) A h0 _ 117 [(2, 55, 0, 0, 0), (2, 30, 0, 0, 0), (0, 0, 0, 60, e)] M _
  refine cx_117_55 (fun x x0 x9 => (hT x x0 x9)) (show 0 ≤ e ∧ e ≤ 60 ∧ e ≤ (M 30 1) ∧ (M 30 1) ≤ 80 by omega) (show 0 ≤ (M 55 5) ∧ (M 55 5) ≤ e by omega) ?_
  intro M103 (i1 : ∀ q j, ¬ (q = 55 ∧ (j = 5 ∨ j = 6 ∨ j = 7)) → M103 q j = M q j) (i2 : bk_N T e (M 55 5) (M103 55 6) (M103 55 7) (M103 55 5))
  have hTM103 : ∀ x, 0 ≤ x → x < 80 → M103 31 x = T x := fun x x0 x9 => (i1 31 x (by omega)).trans (hT x x0 x9)
  have eM103 : M103 30 1 = M 30 1 := (i1 30 1 (by decide)).trans (rfl)
  have fM103 : ∀ q j, ¬ (q = 55 ∧ 4 ≤ j ∧ j ≤ 7) → ¬ ((q = 56 ∨ q = 57 ∨ q = 58) ∧ j = x2) → M103 q j = M q j := fun q j h1 h2 => (i1 q j (by omega)).trans (rfl)
  have nM103 := bk_N_b i2
  have wM103 : xa_w32 ((M103 55 5) + 1) = (M103 55 5) + 1 := xa_w32_id (by omega) (by omega)
  show xa_C (xl_I b) A h0 _ 18 [(2, 56, 0, 0, 0), (0, 0, 0, 7, x2), (0, 0, (-2147483648), 2147483647, M103 55 6)] M103 _
  refine cx_18_56 (show 0 ≤ x2 ∧ x2 < 8 by omega) ?_
  refine And.intro ?_ ?_
  · intro (c3 : (M103 55 7) = 0)
    refine And.intro ?_ ?_
    · intro (c4 : (M103 55 7) = 0)
      show xa_C (xl_I b) A h0 _ 18 [(2, 58, 0, 0, 0), (0, 0, 0, 7, x2), (0, 0, 0, 0, 0)] (xa_up M103 56 x2 (M103 55 6)) _
      refine cx_18_58 (show 0 ≤ x2 ∧ x2 < 8 by omega) ?_
      refine And.intro ?_ ?_
      · intro (c5 : (M103 55 7) = 0)
        show post none (xa_up (xa_up (xa_up M103 56 x2 (M103 55 6)) 58 x2 0) 55 4 (x2 + 1))
        have tM103 := hTM103 (M103 55 5)
        refine k _ (fun q j h1 h2 => ?_) ?_ ?_
        · exact (xa_up_ne (by omega)).trans ((xa_up_ne (by omega)).trans ((xa_up_ne (by omega)).trans (fM103 q j h1 h2)))
        · show bk_L T e (M 55 5) (M103 55 7) ((xa_up (xa_up (xa_up M103 56 x2 (M103 55 6)) 58 x2 0) 55 4 (x2 + 1)) 56 x2) ((xa_up (xa_up (xa_up M103 56 x2 (M103 55 6)) 58 x2 0) 55 4 (x2 + 1)) 57 x2) ((xa_up (xa_up (xa_up M103 56 x2 (M103 55 6)) 58 x2 0) 55 4 (x2 + 1)) 58 x2) (M103 55 5)
          exact ⟨_, _, _, i2, by omega⟩
        · show x2 + 1 = x2 + 1
          rfl
      · intro (c5 : ¬ (M103 55 7) = 0)
        exfalso
        omega
    · intro (c4 : ¬ (M103 55 7) = 0)
      exfalso
      omega
  · intro (c3 : ¬ (M103 55 7) = 0)
    refine And.intro ?_ ?_
    · intro (c6 : e ≤ (M103 55 5))
      refine And.intro ?_ ?_
      · intro (c7 : 0 = 0)
        refine And.intro ?_ ?_
        · intro (c8 : 0 = 0)
          show xa_C (xl_I b) A h0 _ 18 [(2, 58, 0, 0, 0), (0, 0, 0, 7, x2), (0, 0, 0, 0, 0)] (xa_up (xa_up (xa_up M103 56 x2 (M103 55 6)) 55 7 0) 55 5 ((M103 55 5) + 0)) _
          refine cx_18_58 (show 0 ≤ x2 ∧ x2 < 8 by omega) ?_
          refine And.intro ?_ ?_
          · intro (c9 : 0 = 0)
            show post none (xa_up (xa_up (xa_up (xa_up (xa_up M103 56 x2 (M103 55 6)) 55 7 0) 55 5 ((M103 55 5) + 0)) 58 x2 0) 55 4 (x2 + 1))
            have tM103 := hTM103 (M103 55 5)
            refine k _ (fun q j h1 h2 => ?_) ?_ ?_
            · exact (xa_up_ne (by omega)).trans ((xa_up_ne (by omega)).trans ((xa_up_ne (by omega)).trans ((xa_up_ne (by omega)).trans ((xa_up_ne (by omega)).trans (fM103 q j h1 h2)))))
            · show bk_L T e (M 55 5) 0 ((xa_up (xa_up (xa_up (xa_up (xa_up M103 56 x2 (M103 55 6)) 55 7 0) 55 5 ((M103 55 5) + 0)) 58 x2 0) 55 4 (x2 + 1)) 56 x2) ((xa_up (xa_up (xa_up (xa_up (xa_up M103 56 x2 (M103 55 6)) 55 7 0) 55 5 ((M103 55 5) + 0)) 58 x2 0) 55 4 (x2 + 1)) 57 x2) ((xa_up (xa_up (xa_up (xa_up (xa_up M103 56 x2 (M103 55 6)) 55 7 0) 55 5 ((M103 55 5) + 0)) 58 x2 0) 55 4 (x2 + 1)) 58 x2) ((M103 55 5) + 0)
              exact ⟨_, _, _, i2, by omega⟩
            · show x2 + 1 = x2 + 1
              rfl
          · intro (c9 : ¬ 0 = 0)
            exfalso
            omega
        · intro (c8 : ¬ 0 = 0)
          exfalso
          omega
      · intro (c7 : ¬ 0 = 0)
        exfalso
        omega
    · intro (c6 : (M103 55 5) < e)
      show xa_C (xl_I b) A h0 _ 119 [(2, 30, 0, 0, 0), (0, 0, (-2147483648), 2147483647, M103 55 5)] (xa_up M103 56 x2 (M103 55 6)) _
      refine cg_119 (show 0 ≤ (M103 30 1) ∧ (M103 30 1) ≤ 80 by omega) ?_ ?_
      · intro (i10 : 0 ≤ (M103 55 5) ∧ (M103 55 5) < (M103 30 1))
        refine And.intro ?_ ?_
        · intro (c11 : ¬ (M103 31 (M103 55 5)) = 58)
          refine And.intro ?_ ?_
          · intro (c12 : 0 = 0)
            refine And.intro ?_ ?_
            · intro (c13 : 0 = 0)
              show xa_C (xl_I b) A h0 _ 18 [(2, 58, 0, 0, 0), (0, 0, 0, 7, x2), (0, 0, 0, 0, 0)] (xa_up (xa_up (xa_up M103 56 x2 (M103 55 6)) 55 7 0) 55 5 ((M103 55 5) + 0)) _
              refine cx_18_58 (show 0 ≤ x2 ∧ x2 < 8 by omega) ?_
              refine And.intro ?_ ?_
              · intro (c14 : 0 = 0)
                show post none (xa_up (xa_up (xa_up (xa_up (xa_up M103 56 x2 (M103 55 6)) 55 7 0) 55 5 ((M103 55 5) + 0)) 58 x2 0) 55 4 (x2 + 1))
                have tM103 := hTM103 (M103 55 5)
                refine k _ (fun q j h1 h2 => ?_) ?_ ?_
                · exact (xa_up_ne (by omega)).trans ((xa_up_ne (by omega)).trans ((xa_up_ne (by omega)).trans ((xa_up_ne (by omega)).trans ((xa_up_ne (by omega)).trans (fM103 q j h1 h2)))))
                · show bk_L T e (M 55 5) 0 ((xa_up (xa_up (xa_up (xa_up (xa_up M103 56 x2 (M103 55 6)) 55 7 0) 55 5 ((M103 55 5) + 0)) 58 x2 0) 55 4 (x2 + 1)) 56 x2) ((xa_up (xa_up (xa_up (xa_up (xa_up M103 56 x2 (M103 55 6)) 55 7 0) 55 5 ((M103 55 5) + 0)) 58 x2 0) 55 4 (x2 + 1)) 57 x2) ((xa_up (xa_up (xa_up (xa_up (xa_up M103 56 x2 (M103 55 6)) 55 7 0) 55 5 ((M103 55 5) + 0)) 58 x2 0) 55 4 (x2 + 1)) 58 x2) ((M103 55 5) + 0)
                  exact ⟨_, _, _, i2, by omega⟩
                · show x2 + 1 = x2 + 1
                  rfl
              · intro (c14 : ¬ 0 = 0)
                exfalso
                omega
            · intro (c13 : ¬ 0 = 0)
              exfalso
              omega
          · intro (c12 : ¬ 0 = 0)
            exfalso
            omega
        · intro (c11 : (M103 31 (M103 55 5)) = 58)
          refine And.intro ?_ ?_
          · intro (c15 : 1 = 0)
            exfalso
            omega
          · intro (c15 : ¬ 1 = 0)
            refine And.intro ?_ ?_
            · intro (c16 : 1 = 0)
              exfalso
              omega
            · intro (c16 : ¬ 1 = 0)
              show xa_C (xl_I b) A h0 _ 117 [(2, 55, 0, 0, 0), (2, 30, 0, 0, 0), (0, 0, 0, 60, e)] (xa_up (xa_up (xa_up M103 56 x2 (M103 55 6)) 55 7 1) 55 5 (xa_w32 ((M103 55 5) + 1))) _
              refine cx_117_55 (fun x x0 x9 => (xa_up_ne (by omega)).trans ((xa_up_ne (by omega)).trans ((xa_up_ne (by omega)).trans ((hTM103 x x0 x9))))) (show 0 ≤ e ∧ e ≤ 60 ∧ e ≤ (M103 30 1) ∧ (M103 30 1) ≤ 80 by omega) (show 0 ≤ (xa_w32 ((M103 55 5) + 1)) ∧ (xa_w32 ((M103 55 5) + 1)) ≤ e by omega) ?_
              intro M104 (i17 : ∀ q j, ¬ (q = 55 ∧ (j = 5 ∨ j = 6 ∨ j = 7)) → M104 q j = (xa_up (xa_up (xa_up M103 56 x2 (M103 55 6)) 55 7 1) 55 5 (xa_w32 ((M103 55 5) + 1))) q j) (i18 : bk_N T e (xa_w32 ((M103 55 5) + 1)) (M104 55 6) (M104 55 7) (M104 55 5))
              have hTM104 : ∀ x, 0 ≤ x → x < 80 → M104 31 x = T x := fun x x0 x9 => (i17 31 x (by omega)).trans ((xa_up_ne (by omega)).trans ((xa_up_ne (by omega)).trans ((xa_up_ne (by omega)).trans (hTM103 x x0 x9))))
              have eM104 : M104 30 1 = M 30 1 := (i17 30 1 (by decide)).trans ((xa_up_ne (by omega)).trans ((xa_up_ne (by omega)).trans ((xa_up_ne (by omega)).trans (eM103))))
              have fM104 : ∀ q j, ¬ (q = 55 ∧ 4 ≤ j ∧ j ≤ 7) → ¬ ((q = 56 ∨ q = 57 ∨ q = 58) ∧ j = x2) → M104 q j = M q j := fun q j h1 h2 => (i17 q j (by omega)).trans ((xa_up_ne (by omega)).trans ((xa_up_ne (by omega)).trans ((xa_up_ne (by omega)).trans (fM103 q j h1 h2))))
              have nM104 := bk_N_b i18
              have wM104 : xa_w32 ((M104 55 5) + 1) = (M104 55 5) + 1 := xa_w32_id (by omega) (by omega)
              have v1_of_M104 : M104 56 x2 = M103 55 6 := (i17 56 x2 (by omega)).trans (by simp [xa_up])
              show xa_C (xl_I b) A h0 _ 18 [(2, 57, 0, 0, 0), (0, 0, 0, 7, x2), (0, 0, (-2147483648), 2147483647, M104 55 6)] M104 _
              refine cx_18_57 (show 0 ≤ x2 ∧ x2 < 8 by omega) ?_
              show xa_C (xl_I b) A h0 _ 18 [(2, 58, 0, 0, 0), (0, 0, 0, 7, x2), (0, 0, 0, 0, 0)] (xa_up M104 57 x2 (M104 55 6)) _
              refine cx_18_58 (show 0 ≤ x2 ∧ x2 < 8 by omega) ?_
              refine And.intro ?_ ?_
              · intro (c19 : (M104 55 7) = 0)
                show post none (xa_up (xa_up (xa_up M104 57 x2 (M104 55 6)) 58 x2 0) 55 4 (x2 + 1))
                have w1 : xa_w32 ((M103 55 5) + 1) = (M103 55 5) + 1 := xa_w32_id (by omega) (by omega)
                rw [w1] at i17 i18
                have tM103 := hTM103 (M103 55 5)
                have tM104 := hTM104 (M104 55 5)
                refine k _ (fun q j h1 h2 => ?_) ?_ ?_
                · exact (xa_up_ne (by omega)).trans ((xa_up_ne (by omega)).trans ((xa_up_ne (by omega)).trans (fM104 q j h1 h2)))
                · show bk_L T e (M 55 5) (M104 55 7) ((xa_up (xa_up (xa_up M104 57 x2 (M104 55 6)) 58 x2 0) 55 4 (x2 + 1)) 56 x2) ((xa_up (xa_up (xa_up M104 57 x2 (M104 55 6)) 58 x2 0) 55 4 (x2 + 1)) 57 x2) ((xa_up (xa_up (xa_up M104 57 x2 (M104 55 6)) 58 x2 0) 55 4 (x2 + 1)) 58 x2) (M104 55 5)
                  have v1 : (xa_up (xa_up (xa_up M104 57 x2 (M104 55 6)) 58 x2 0) 55 4 (x2 + 1)) 56 x2 = M103 55 6 := (xa_up_ne (by omega)).trans ((xa_up_ne (by omega)).trans ((xa_up_ne (by omega)).trans (v1_of_M104)))
                  have v2 : (xa_up (xa_up (xa_up M104 57 x2 (M104 55 6)) 58 x2 0) 55 4 (x2 + 1)) 57 x2 = M104 55 6 := (xa_up_ne (by omega)).trans ((xa_up_ne (by omega)).trans (xa_up_eq))
                  have v3 : (xa_up (xa_up (xa_up M104 57 x2 (M104 55 6)) 58 x2 0) 55 4 (x2 + 1)) 58 x2 = 0 := (xa_up_ne (by omega)).trans (xa_up_eq)
                  rw [v1, v2, v3]
                  exact ⟨_, _, _, i2, Or.inr (Or.inr ⟨by omega, by omega, by omega, _, _, _, i18, by omega⟩)⟩
                · show x2 + 1 = x2 + 1
                  rfl
              · intro (c19 : ¬ (M104 55 7) = 0)
                refine And.intro ?_ ?_
                · intro (c20 : e ≤ (M104 55 5))
                  show post none (xa_up (xa_up (xa_up M104 57 x2 (M104 55 6)) 58 x2 0) 55 4 (x2 + 1))
                  have w1 : xa_w32 ((M103 55 5) + 1) = (M103 55 5) + 1 := xa_w32_id (by omega) (by omega)
                  rw [w1] at i17 i18
                  have tM103 := hTM103 (M103 55 5)
                  have tM104 := hTM104 (M104 55 5)
                  refine k _ (fun q j h1 h2 => ?_) ?_ ?_
                  · exact (xa_up_ne (by omega)).trans ((xa_up_ne (by omega)).trans ((xa_up_ne (by omega)).trans (fM104 q j h1 h2)))
                  · show bk_L T e (M 55 5) (M104 55 7) ((xa_up (xa_up (xa_up M104 57 x2 (M104 55 6)) 58 x2 0) 55 4 (x2 + 1)) 56 x2) ((xa_up (xa_up (xa_up M104 57 x2 (M104 55 6)) 58 x2 0) 55 4 (x2 + 1)) 57 x2) ((xa_up (xa_up (xa_up M104 57 x2 (M104 55 6)) 58 x2 0) 55 4 (x2 + 1)) 58 x2) (M104 55 5)
                    have v1 : (xa_up (xa_up (xa_up M104 57 x2 (M104 55 6)) 58 x2 0) 55 4 (x2 + 1)) 56 x2 = M103 55 6 := (xa_up_ne (by omega)).trans ((xa_up_ne (by omega)).trans ((xa_up_ne (by omega)).trans (v1_of_M104)))
                    have v2 : (xa_up (xa_up (xa_up M104 57 x2 (M104 55 6)) 58 x2 0) 55 4 (x2 + 1)) 57 x2 = M104 55 6 := (xa_up_ne (by omega)).trans ((xa_up_ne (by omega)).trans (xa_up_eq))
                    have v3 : (xa_up (xa_up (xa_up M104 57 x2 (M104 55 6)) 58 x2 0) 55 4 (x2 + 1)) 58 x2 = 0 := (xa_up_ne (by omega)).trans (xa_up_eq)
                    rw [v1, v2, v3]
                    exact ⟨_, _, _, i2, Or.inr (Or.inr ⟨by omega, by omega, by omega, _, _, _, i18, by omega⟩)⟩
                  · show x2 + 1 = x2 + 1
                    rfl
                · intro (c20 : (M104 55 5) < e)
                  show xa_C (xl_I b) A h0 _ 120 [(2, 30, 0, 0, 0), (0, 0, (-2147483648), 2147483647, M104 55 5)] (xa_up (xa_up M104 57 x2 (M104 55 6)) 58 x2 0) _
                  refine cg_120 (show 0 ≤ (M104 30 1) ∧ (M104 30 1) ≤ 80 by omega) ?_ ?_
                  · intro (i21 : (0 ≤ (M104 55 5) ∧ (M104 55 5) < (M104 30 1)) ∧ 97 ≤ M104 31 (M104 55 5) ∧ M104 31 (M104 55 5) ≤ 122)
                    show xa_C (xl_I b) A h0 _ 119 [(2, 30, 0, 0, 0), (0, 0, (-2147483648), 2147483647, M104 55 5)] (xa_up (xa_up M104 57 x2 (M104 55 6)) 58 x2 0) _
                    refine cg_119 (show 0 ≤ (M104 30 1) ∧ (M104 30 1) ≤ 80 by omega) ?_ ?_
                    · intro (i22 : 0 ≤ (M104 55 5) ∧ (M104 55 5) < (M104 30 1))
                      show xa_C (xl_I b) A h0 _ 18 [(2, 58, 0, 0, 0), (0, 0, 0, 7, x2), (0, 0, (-2147483648), 2147483647, M104 31 (M104 55 5))] (xa_up (xa_up M104 57 x2 (M104 55 6)) 58 x2 0) _
                      refine cx_18_58 (show 0 ≤ x2 ∧ x2 < 8 by omega) ?_
                      show post none (xa_up (xa_up (xa_up (xa_up (xa_up M104 57 x2 (M104 55 6)) 58 x2 0) 58 x2 (M104 31 (M104 55 5))) 55 5 (xa_w32 ((M104 55 5) + 1))) 55 4 (x2 + 1))
                      have w1 : xa_w32 ((M103 55 5) + 1) = (M103 55 5) + 1 := xa_w32_id (by omega) (by omega)
                      rw [w1] at i17 i18
                      have w2 : xa_w32 ((M104 55 5) + 1) = (M104 55 5) + 1 := xa_w32_id (by omega) (by omega)
                      have tM103 := hTM103 (M103 55 5)
                      have tM104 := hTM104 (M104 55 5)
                      refine k _ (fun q j h1 h2 => ?_) ?_ ?_
                      · exact (xa_up_ne (by omega)).trans ((xa_up_ne (by omega)).trans ((xa_up_ne (by omega)).trans ((xa_up_ne (by omega)).trans ((xa_up_ne (by omega)).trans (fM104 q j h1 h2)))))
                      · show bk_L T e (M 55 5) (M104 55 7) ((xa_up (xa_up (xa_up (xa_up (xa_up M104 57 x2 (M104 55 6)) 58 x2 0) 58 x2 (M104 31 (M104 55 5))) 55 5 (xa_w32 ((M104 55 5) + 1))) 55 4 (x2 + 1)) 56 x2) ((xa_up (xa_up (xa_up (xa_up (xa_up M104 57 x2 (M104 55 6)) 58 x2 0) 58 x2 (M104 31 (M104 55 5))) 55 5 (xa_w32 ((M104 55 5) + 1))) 55 4 (x2 + 1)) 57 x2) ((xa_up (xa_up (xa_up (xa_up (xa_up M104 57 x2 (M104 55 6)) 58 x2 0) 58 x2 (M104 31 (M104 55 5))) 55 5 (xa_w32 ((M104 55 5) + 1))) 55 4 (x2 + 1)) 58 x2) (xa_w32 ((M104 55 5) + 1))
                        have v1 : (xa_up (xa_up (xa_up (xa_up (xa_up M104 57 x2 (M104 55 6)) 58 x2 0) 58 x2 (M104 31 (M104 55 5))) 55 5 (xa_w32 ((M104 55 5) + 1))) 55 4 (x2 + 1)) 56 x2 = M103 55 6 := (xa_up_ne (by omega)).trans ((xa_up_ne (by omega)).trans ((xa_up_ne (by omega)).trans ((xa_up_ne (by omega)).trans ((xa_up_ne (by omega)).trans (v1_of_M104)))))
                        have v2 : (xa_up (xa_up (xa_up (xa_up (xa_up M104 57 x2 (M104 55 6)) 58 x2 0) 58 x2 (M104 31 (M104 55 5))) 55 5 (xa_w32 ((M104 55 5) + 1))) 55 4 (x2 + 1)) 57 x2 = M104 55 6 := (xa_up_ne (by omega)).trans ((xa_up_ne (by omega)).trans ((xa_up_ne (by omega)).trans ((xa_up_ne (by omega)).trans (xa_up_eq))))
                        have v3 : (xa_up (xa_up (xa_up (xa_up (xa_up M104 57 x2 (M104 55 6)) 58 x2 0) 58 x2 (M104 31 (M104 55 5))) 55 5 (xa_w32 ((M104 55 5) + 1))) 55 4 (x2 + 1)) 58 x2 = M104 31 (M104 55 5) := (xa_up_ne (by omega)).trans ((xa_up_ne (by omega)).trans (xa_up_eq))
                        rw [v1, v2, v3]
                        exact ⟨_, _, _, i2, Or.inr (Or.inr ⟨by omega, by omega, by omega, _, _, _, i18, by omega⟩)⟩
                      · show x2 + 1 = x2 + 1
                        rfl
                    · intro (i23 : ¬ (0 ≤ (M104 55 5) ∧ (M104 55 5) < (M104 30 1)))
                      exfalso
                      omega
                  · intro (i24 : ¬ ((0 ≤ (M104 55 5) ∧ (M104 55 5) < (M104 30 1)) ∧ 97 ≤ M104 31 (M104 55 5) ∧ M104 31 (M104 55 5) ≤ 122))
                    show post none (xa_up (xa_up (xa_up M104 57 x2 (M104 55 6)) 58 x2 0) 55 4 (x2 + 1))
                    have w1 : xa_w32 ((M103 55 5) + 1) = (M103 55 5) + 1 := xa_w32_id (by omega) (by omega)
                    rw [w1] at i17 i18
                    have tM103 := hTM103 (M103 55 5)
                    have tM104 := hTM104 (M104 55 5)
                    refine k _ (fun q j h1 h2 => ?_) ?_ ?_
                    · exact (xa_up_ne (by omega)).trans ((xa_up_ne (by omega)).trans ((xa_up_ne (by omega)).trans (fM104 q j h1 h2)))
                    · show bk_L T e (M 55 5) (M104 55 7) ((xa_up (xa_up (xa_up M104 57 x2 (M104 55 6)) 58 x2 0) 55 4 (x2 + 1)) 56 x2) ((xa_up (xa_up (xa_up M104 57 x2 (M104 55 6)) 58 x2 0) 55 4 (x2 + 1)) 57 x2) ((xa_up (xa_up (xa_up M104 57 x2 (M104 55 6)) 58 x2 0) 55 4 (x2 + 1)) 58 x2) (M104 55 5)
                      have v1 : (xa_up (xa_up (xa_up M104 57 x2 (M104 55 6)) 58 x2 0) 55 4 (x2 + 1)) 56 x2 = M103 55 6 := (xa_up_ne (by omega)).trans ((xa_up_ne (by omega)).trans ((xa_up_ne (by omega)).trans (v1_of_M104)))
                      have v2 : (xa_up (xa_up (xa_up M104 57 x2 (M104 55 6)) 58 x2 0) 55 4 (x2 + 1)) 57 x2 = M104 55 6 := (xa_up_ne (by omega)).trans ((xa_up_ne (by omega)).trans (xa_up_eq))
                      have v3 : (xa_up (xa_up (xa_up M104 57 x2 (M104 55 6)) 58 x2 0) 55 4 (x2 + 1)) 58 x2 = 0 := (xa_up_ne (by omega)).trans (xa_up_eq)
                      rw [v1, v2, v3]
                      exact ⟨_, _, _, i2, Or.inr (Or.inr ⟨by omega, by omega, by omega, _, _, _, i18, by omega⟩)⟩
                    · show x2 + 1 = x2 + 1
                      rfl
      · intro (i25 : ¬ (0 ≤ (M103 55 5) ∧ (M103 55 5) < (M103 30 1)))
        refine And.intro ?_ ?_
        · intro (c26 : 0 = 0)
          refine And.intro ?_ ?_
          · intro (c27 : 0 = 0)
            show xa_C (xl_I b) A h0 _ 18 [(2, 58, 0, 0, 0), (0, 0, 0, 7, x2), (0, 0, 0, 0, 0)] (xa_up (xa_up (xa_up M103 56 x2 (M103 55 6)) 55 7 0) 55 5 ((M103 55 5) + 0)) _
            refine cx_18_58 (show 0 ≤ x2 ∧ x2 < 8 by omega) ?_
            refine And.intro ?_ ?_
            · intro (c28 : 0 = 0)
              show post none (xa_up (xa_up (xa_up (xa_up (xa_up M103 56 x2 (M103 55 6)) 55 7 0) 55 5 ((M103 55 5) + 0)) 58 x2 0) 55 4 (x2 + 1))
              have tM103 := hTM103 (M103 55 5)
              refine k _ (fun q j h1 h2 => ?_) ?_ ?_
              · exact (xa_up_ne (by omega)).trans ((xa_up_ne (by omega)).trans ((xa_up_ne (by omega)).trans ((xa_up_ne (by omega)).trans ((xa_up_ne (by omega)).trans (fM103 q j h1 h2)))))
              · show bk_L T e (M 55 5) 0 ((xa_up (xa_up (xa_up (xa_up (xa_up M103 56 x2 (M103 55 6)) 55 7 0) 55 5 ((M103 55 5) + 0)) 58 x2 0) 55 4 (x2 + 1)) 56 x2) ((xa_up (xa_up (xa_up (xa_up (xa_up M103 56 x2 (M103 55 6)) 55 7 0) 55 5 ((M103 55 5) + 0)) 58 x2 0) 55 4 (x2 + 1)) 57 x2) ((xa_up (xa_up (xa_up (xa_up (xa_up M103 56 x2 (M103 55 6)) 55 7 0) 55 5 ((M103 55 5) + 0)) 58 x2 0) 55 4 (x2 + 1)) 58 x2) ((M103 55 5) + 0)
                exact ⟨_, _, _, i2, by omega⟩
              · show x2 + 1 = x2 + 1
                rfl
            · intro (c28 : ¬ 0 = 0)
              exfalso
              omega
          · intro (c27 : ¬ 0 = 0)
            exfalso
            omega
        · intro (c26 : ¬ 0 = 0)
          exfalso
          omega
