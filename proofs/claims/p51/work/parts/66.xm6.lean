-- methods that write what lasts (made by wip/p24/xa/xm6.py)
set_option maxRecDepth 20000
theorem xm_bld_c {M M1 : xa_M} (h : ∀ j, M1 104 j = M 104 j) {i : Int} (hb : xm_bld M i) : xm_bld M1 i := by
  unfold xm_bld at hb ⊢
  simp only [h]
  exact hb
theorem xm_Inv_b {M M1 : xa_M} (h104 : ∀ j, M1 104 j = M 104 j) (h105 : ∀ j, M1 105 j = M 105 j) (hI : xm_Inv M) (c1 : ∀ w, 0 ≤ w → w < M1 60 0 → 10 ≤ M1 61 w ∧ M1 61 w ≤ M1 62 w ∧ 10 ≤ M1 63 w) (c2 : ∀ m, 0 ≤ m → m < M1 60 6 → M1 66 m < M1 60 0 ∧ M1 67 m < M1 60 0) (c3 : ∀ p, 0 ≤ p → p < M1 60 11 → 1 ≤ M1 70 p ∧ 1 ≤ M1 71 p) (c4 : M1 60 15 ≤ M1 60 16) : xm_Inv M1 :=
  ⟨c1, c2, c3, c4, fun i i0 i1 i2 => xm_bld_c h104 (hI.2.2.2.2 i i0 i1 (by rw [← h105]; exact i2))⟩
theorem ct_max {A : Nat → Nat} {h0 : g_H} {d : Nat} {M : xa_M} {post : Option xa_V → xa_M → Prop} {I : xa_I} {l1 u1 l2 u2 a b : Int} (lo hi : Int) (h1 : lo ≤ l1 ∨ lo ≤ l2) (h2 : u1 ≤ hi) (h3 : u2 ≤ hi) (k : ∀ r : Int, (lo ≤ r ∧ r ≤ hi) → (a ≤ r ∧ b ≤ r ∧ (r = a ∨ r = b)) → post (some (0, 0, lo, hi, r)) M) : xa_C I A h0 (d + 1) 35 [(0, 0, l1, u1, a), (0, 0, l2, u2, b)] M post := by
  refine xa_C_asm (fun hM hv => ?_)
  have va : l1 ≤ a ∧ a ≤ u1 := xa_v1 hv (show (0 : Nat) < 2 by decide)
  have vb : l2 ≤ b ∧ b ≤ u2 := xa_v2 hv (show (0 : Nat) < 2 by decide)
  refine xa_C_arg [(0, 0, (-2147483648), 2147483647, a), (0, 0, (-2147483648), 2147483647, b)] (xa_svI (fun _ _ _ _ => by omega) (xa_svI (fun _ _ _ _ => by omega) xa_sv0)) (xa_C_wk ?_)
  refine xa_meth (Q0 := (2, 1, false, 0, 0, 14)) (by decide +kernel) ⟨rfl, rfl⟩ (full := s_c_35) rfl rfl ?_
  intro hM hv Q hgo
  refine hgo.1 10 [] 0 _ _ _ ?_
  refine And.intro ?_ ?_
  · intro (c1 : a < b)
    show xa_wk post (some (0, 0, (-2147483648), 2147483647, b)) M
    exact xa_wkI b rfl (fun _ _ => by omega) (k _ (by omega) (by omega))
  · intro (c1 : b ≤ a)
    show xa_wk post (some (0, 0, (-2147483648), 2147483647, a)) M
    exact xa_wkI a rfl (fun _ _ => by omega) (k _ (by omega) (by omega))
theorem ct_min {A : Nat → Nat} {h0 : g_H} {d : Nat} {M : xa_M} {post : Option xa_V → xa_M → Prop} {I : xa_I} {l1 u1 l2 u2 a b : Int} (lo hi : Int) (h1 : lo ≤ l1) (h2 : lo ≤ l2) (h3 : u1 ≤ hi ∨ u2 ≤ hi) (k : ∀ r : Int, (lo ≤ r ∧ r ≤ hi) → (r ≤ a ∧ r ≤ b ∧ (r = a ∨ r = b)) → post (some (0, 0, lo, hi, r)) M) : xa_C I A h0 (d + 1) 32 [(0, 0, l1, u1, a), (0, 0, l2, u2, b)] M post := by
  refine xa_C_asm (fun hM hv => ?_)
  have va : l1 ≤ a ∧ a ≤ u1 := xa_v1 hv (show (0 : Nat) < 2 by decide)
  have vb : l2 ≤ b ∧ b ≤ u2 := xa_v2 hv (show (0 : Nat) < 2 by decide)
  refine xa_C_arg [(0, 0, (-2147483648), 2147483647, a), (0, 0, (-2147483648), 2147483647, b)] (xa_svI (fun _ _ _ _ => by omega) (xa_svI (fun _ _ _ _ => by omega) xa_sv0)) (xa_C_wk ?_)
  refine xa_meth (Q0 := (2, 1, false, 0, 0, 14)) (by decide +kernel) ⟨rfl, rfl⟩ (full := s_c_32) rfl rfl ?_
  intro hM hv Q hgo
  refine hgo.1 10 [] 0 _ _ _ ?_
  refine And.intro ?_ ?_
  · intro (c1 : b < a)
    show xa_wk post (some (0, 0, (-2147483648), 2147483647, b)) M
    exact xa_wkI b rfl (fun _ _ => by omega) (k _ (by omega) (by omega))
  · intro (c1 : a ≤ b)
    show xa_wk post (some (0, 0, (-2147483648), 2147483647, a)) M
    exact xa_wkI a rfl (fun _ _ => by omega) (k _ (by omega) (by omega))
theorem ct_lost {A : Nat → Nat} {h0 : g_H} {d : Nat} {M : xa_M} {post : Option xa_V → xa_M → Prop} (k : post (some (0, 0, 0, 0, 0)) (xa_up M 60 21 1)) : xa_C xm_I A h0 (d + 1) 224 [(2, 60, 0, 0, 0)] M post := by
  refine xa_meth (Q0 := (1, 1, false, 0, 0, 12)) (by decide +kernel) ⟨rfl, rfl⟩ (full := s_c_224) rfl rfl ?_
  intro hM hv Q hgo
  refine hgo.1 9 [] 0 _ _ _ ?_
  show post (some (0, 0, 0, 0, 0)) (xa_up M 60 21 1)
  exact k
theorem ms_wheel {A : Nat → Nat} {h0 : g_H} {d : Nat} {M : xa_M} {post : Option xa_V → xa_M → Prop} {l1 u1 l2 u2 l3 u3 l4 u4 : Int} {a b c e : Int} (hI : xm_Inv M) (k : ∀ (o : Option xa_V) (M1 : xa_M), xm_Inv M1 → post o M1) : xa_C xm_I A h0 (d + 3) 213 [(2, 60, 0, 0, 0), (0, 0, l1, u1, a), (0, 0, l2, u2, b), (0, 0, l3, u3, c), (0, 0, l4, u4, e)] M post := by
  refine xa_C_arg [(2, 60, 0, 0, 0), (0, 0, (-2147483648), 2147483647, a), (0, 0, (-2147483648), 2147483647, b), (0, 0, (-2147483648), 2147483647, c), (0, 0, (-2147483648), 2147483647, e)] (xa_svR (xa_svI (fun _ _ _ _ => by omega) (xa_svI (fun _ _ _ _ => by omega) (xa_svI (fun _ _ _ _ => by omega) (xa_svI (fun _ _ _ _ => by omega) xa_sv0))))) ?_
  refine xa_meth (Q0 := (5, 1, false, 0, 0, 12)) (by decide +kernel) ⟨rfl, rfl⟩ (full := s_c_213) rfl rfl ?_
  intro hM hv Q hgo
  have b0 := xm_f0 hM
  have b6 := xm_f6 hM
  refine hgo.1 70 [] 0 _ _ _ ?_
  show xa_C xm_I A h0 _ 214 [(0, 0, (-2147483648), 2147483647, a), (0, 0, 10, 10, 10), (0, 0, 400, 400, 400)] (xa_up M 60 21 0) _
  refine ct_in ?_ ?_
  · intro (i1 : 10 ≤ a ∧ a ≤ 400)
    show xa_C xm_I A h0 _ 214 [(0, 0, (-2147483648), 2147483647, b), (0, 0, (-2147483648), 2147483647, a), (0, 0, 400, 400, 400)] (xa_up M 60 21 0) _
    refine ct_in ?_ ?_
    · intro (i2 : a ≤ b ∧ b ≤ 400)
      show xa_C xm_I A h0 _ 215 [(0, 0, (-2147483648), 2147483647, c)] (xa_up M 60 21 0) _
      refine ct_isAxle ?_ ?_
      · intro (i3 : 0 ≤ c ∧ c ≤ 9)
        show xa_C xm_I A h0 _ 214 [(0, 0, (-2147483648), 2147483647, e), (0, 0, 0, 0, 0), (0, 0, 9, 9, 9)] (xa_up M 60 21 0) _
        refine ct_in ?_ ?_
        · intro (i4 : 0 ≤ e ∧ e ≤ 9)
          refine And.intro ?_ ?_
          · intro (c5 : ¬ (M 60 0) = 14)
            refine And.intro (show 0 ≤ (M 60 0) ∧ (M 60 0) < 14 by omega) ?_
            refine And.intro (show 0 ≤ a ∧ a ≤ 400 by omega) ?_
            refine And.intro (show 0 ≤ (M 60 0) ∧ (M 60 0) < 14 by omega) ?_
            refine And.intro (show 0 ≤ b ∧ b ≤ 400 by omega) ?_
            refine And.intro (show 0 ≤ (M 60 0) ∧ (M 60 0) < 14 by omega) ?_
            refine And.intro (show 0 ≤ a ∧ a ≤ 400 by omega) ?_
            refine And.intro (show 0 ≤ (M 60 0) ∧ (M 60 0) < 14 by omega) ?_
            refine And.intro (show 0 ≤ c ∧ c ≤ 9 by omega) ?_
            refine And.intro (show 0 ≤ (M 60 0) ∧ (M 60 0) < 14 by omega) ?_
            refine And.intro (show 0 ≤ e ∧ e ≤ 9 by omega) ?_
            refine And.intro (show 0 ≤ ((M 60 0) + 1) ∧ ((M 60 0) + 1) ≤ 14 by omega) ?_
            show post (some (0, 0, (-1), 13, ((M 60 0) + 1) - 1)) (xa_up (xa_up (xa_up (xa_up (xa_up (xa_up (xa_up M 60 21 0) 61 (M 60 0) a) 62 (M 60 0) b) 63 (M 60 0) a) 64 (M 60 0) c) 65 (M 60 0) e) 60 0 ((M 60 0) + 1))
            refine k _ _ (xm_Inv_b (M := M) (fun j => by simp [xa_up]) (fun j => by simp [xa_up]) hI (fun w w0 w1 => ?_) (fun m m0 m1 => ?_) (fun p p0 p1 => ?_) ?_)
            · by_cases e : w = M 60 0
              · rw [e]
                simp [xa_up]
                omega
              · have h := hI.1 w w0 (by simp [xa_up] at w1; omega)
                simp [xa_up, e]
                exact h
            · have h := hI.2.1 m m0 (by simp [xa_up] at m1; omega)
              simp [xa_up]
              omega
            · have h := hI.2.2.1 p p0 (by simp [xa_up] at p1; omega)
              simp [xa_up]
              exact h
            · simp [xa_up]
              exact hI.2.2.2.1
          · intro (c5 : (M 60 0) = 14)
            show post (some (0, 0, (-1), (-1), (-1))) (xa_up M 60 21 0)
            exact k _ _ (xm_Inv_cor (xm_cor_f (by omega) xm_cor_r) hI)
        · intro (i4 : ¬ (0 ≤ e ∧ e ≤ 9))
          show post (some (0, 0, (-1), (-1), (-1))) (xa_up M 60 21 0)
          exact k _ _ (xm_Inv_cor (xm_cor_f (by omega) xm_cor_r) hI)
      · intro (i3 : ¬ (0 ≤ c ∧ c ≤ 9))
        show post (some (0, 0, (-1), (-1), (-1))) (xa_up M 60 21 0)
        exact k _ _ (xm_Inv_cor (xm_cor_f (by omega) xm_cor_r) hI)
    · intro (i2 : ¬ (a ≤ b ∧ b ≤ 400))
      show post (some (0, 0, (-1), (-1), (-1))) (xa_up M 60 21 0)
      exact k _ _ (xm_Inv_cor (xm_cor_f (by omega) xm_cor_r) hI)
  · intro (i1 : ¬ (10 ≤ a ∧ a ≤ 400))
    show post (some (0, 0, (-1), (-1), (-1))) (xa_up M 60 21 0)
    exact k _ _ (xm_Inv_cor (xm_cor_f (by omega) xm_cor_r) hI)
theorem ms_mesh {A : Nat → Nat} {h0 : g_H} {d : Nat} {M : xa_M} {post : Option xa_V → xa_M → Prop} {l1 u1 l2 u2 : Int} {a b : Int} (hI : xm_Inv M) (k : ∀ (o : Option xa_V) (M1 : xa_M), xm_Inv M1 → post o M1) : xa_C xm_I A h0 (d + 3) 220 [(2, 60, 0, 0, 0), (0, 0, l1, u1, a), (0, 0, l2, u2, b)] M post := by
  refine xa_C_arg [(2, 60, 0, 0, 0), (0, 0, (-2147483648), 2147483647, a), (0, 0, (-2147483648), 2147483647, b)] (xa_svR (xa_svI (fun _ _ _ _ => by omega) (xa_svI (fun _ _ _ _ => by omega) xa_sv0))) ?_
  refine xa_meth (Q0 := (3, 1, false, 0, 0, 12)) (by decide +kernel) ⟨rfl, rfl⟩ (full := s_c_220) rfl rfl ?_
  intro hM hv Q hgo
  have b0 := xm_f0 hM
  have b6 := xm_f6 hM
  refine hgo.1 54 [] 0 _ _ _ ?_
  show xa_C xm_I A h0 _ 217 [(2, 60, 0, 0, 0), (0, 0, (-2147483648), 2147483647, a)] (xa_up M 60 21 0) _
  refine ct_isWheel ?_ ?_
  · intro (i1 : 0 ≤ a ∧ a < (M 60 0))
    show xa_C xm_I A h0 _ 217 [(2, 60, 0, 0, 0), (0, 0, (-2147483648), 2147483647, b)] (xa_up M 60 21 0) _
    refine ct_isWheel ?_ ?_
    · intro (i2 : 0 ≤ b ∧ b < (M 60 0))
      refine And.intro (show 0 ≤ a ∧ a < 14 by omega) ?_
      refine And.intro (show 0 ≤ b ∧ b < 14 by omega) ?_
      refine And.intro ?_ ?_
      · intro (c3 : (M 64 a) = (M 64 b))
        show post (some (0, 0, (-1), (-1), (-1))) (xa_up M 60 21 0)
        exact k _ _ (xm_Inv_cor (xm_cor_f (by omega) xm_cor_r) hI)
      · intro (c3 : ¬ (M 64 a) = (M 64 b))
        show xa_C xm_I A h0 _ 221 [(2, 60, 0, 0, 0), (0, 0, (-2147483648), 2147483647, a), (0, 0, (-2147483648), 2147483647, b)] (xa_up M 60 21 0) _
        refine ct_areMeshed (fun r4 zr4 er4 => ?_)
        refine And.intro ?_ ?_
        · intro (c5 : ¬ r4 = 0)
          show post (some (0, 0, (-1), (-1), (-1))) (xa_up M 60 21 0)
          exact k _ _ (xm_Inv_cor (xm_cor_f (by omega) xm_cor_r) hI)
        · intro (c5 : r4 = 0)
          refine And.intro ?_ ?_
          · intro (c6 : ¬ (M 60 6) = 16)
            refine And.intro (show 0 ≤ (M 60 6) ∧ (M 60 6) < 16 by omega) ?_
            refine And.intro (show 0 ≤ a ∧ a ≤ 13 by omega) ?_
            refine And.intro (show 0 ≤ (M 60 6) ∧ (M 60 6) < 16 by omega) ?_
            refine And.intro (show 0 ≤ b ∧ b ≤ 13 by omega) ?_
            refine And.intro (show 0 ≤ ((M 60 6) + 1) ∧ ((M 60 6) + 1) ≤ 16 by omega) ?_
            show post (some (0, 0, 0, 16, (M 60 6) + 1)) (xa_up (xa_up (xa_up (xa_up M 60 21 0) 66 (M 60 6) a) 67 (M 60 6) b) 60 6 ((M 60 6) + 1))
            refine k _ _ (xm_Inv_b (M := M) (fun j => by simp [xa_up]) (fun j => by simp [xa_up]) hI (fun w w0 w1 => ?_) (fun m m0 m1 => ?_) (fun p p0 p1 => ?_) ?_)
            · have h := hI.1 w w0 (by simp [xa_up] at w1; omega)
              simp [xa_up]
              exact h
            · by_cases e : m = M 60 6
              · rw [e]
                simp [xa_up]
                omega
              · have h := hI.2.1 m m0 (by simp [xa_up] at m1; omega)
                simp [xa_up, e]
                exact h
            · have h := hI.2.2.1 p p0 (by simp [xa_up] at p1; omega)
              simp [xa_up]
              exact h
            · simp [xa_up]
              exact hI.2.2.2.1
          · intro (c6 : (M 60 6) = 16)
            show post (some (0, 0, (-1), (-1), (-1))) (xa_up M 60 21 0)
            exact k _ _ (xm_Inv_cor (xm_cor_f (by omega) xm_cor_r) hI)
    · intro (i2 : ¬ (0 ≤ b ∧ b < (M 60 0)))
      show post (some (0, 0, (-1), (-1), (-1))) (xa_up M 60 21 0)
      exact k _ _ (xm_Inv_cor (xm_cor_f (by omega) xm_cor_r) hI)
  · intro (i1 : ¬ (0 ≤ a ∧ a < (M 60 0)))
    show post (some (0, 0, (-1), (-1), (-1))) (xa_up M 60 21 0)
    exact k _ _ (xm_Inv_cor (xm_cor_f (by omega) xm_cor_r) hI)
theorem ms_part {A : Nat → Nat} {h0 : g_H} {d : Nat} {M : xa_M} {post : Option xa_V → xa_M → Prop} (hI : xm_Inv M) (k : ∀ (o : Option xa_V) (M1 : xa_M), xm_Inv M1 → post o M1) : xa_C xm_I A h0 (d + 1) 222 [(2, 60, 0, 0, 0)] M post := by
  refine xa_meth (Q0 := (1, 1, false, 0, 0, 12)) (by decide +kernel) ⟨rfl, rfl⟩ (full := s_c_222) rfl rfl ?_
  intro hM hv Q hgo
  have b0 := xm_f0 hM
  have b6 := xm_f6 hM
  refine hgo.1 19 [] 0 _ _ _ ?_
  refine And.intro ?_ ?_
  · intro (c1 : ¬ (M 60 6) = 0)
    refine And.intro (show 0 ≤ ((M 60 6) - 1) ∧ ((M 60 6) - 1) ≤ 16 by omega) ?_
    show post (some (0, 0, 0, 16, (M 60 6) - 1)) (xa_up (xa_up M 60 21 0) 60 6 ((M 60 6) - 1))
    refine k _ _ (xm_Inv_b (M := M) (fun j => by simp [xa_up]) (fun j => by simp [xa_up]) hI (fun w w0 w1 => ?_) (fun m m0 m1 => ?_) (fun p p0 p1 => ?_) ?_)
    · have h := hI.1 w w0 (by simp [xa_up] at w1; omega)
      simp [xa_up]
      exact h
    · have h := hI.2.1 m m0 (by simp [xa_up] at m1; omega)
      simp [xa_up]
      exact h
    · have h := hI.2.2.1 p p0 (by simp [xa_up] at p1; omega)
      simp [xa_up]
      exact h
    · simp [xa_up]
      exact hI.2.2.2.1
  · intro (c1 : (M 60 6) = 0)
    show post (some (0, 0, (-1), (-1), (-1))) (xa_up M 60 21 0)
    exact k _ _ (xm_Inv_cor (xm_cor_f (by omega) xm_cor_r) hI)
theorem ms_shop {A : Nat → Nat} {h0 : g_H} {d : Nat} {M : xa_M} {post : Option xa_V → xa_M → Prop} {l1 u1 l2 u2 : Int} {a b : Int} (hI : xm_Inv M) (k : ∀ (o : Option xa_V) (M1 : xa_M), xm_Inv M1 → post o M1) : xa_C xm_I A h0 (d + 2) 256 [(2, 60, 0, 0, 0), (0, 0, l1, u1, a), (0, 0, l2, u2, b)] M post := by
  refine xa_C_arg [(2, 60, 0, 0, 0), (0, 0, (-2147483648), 2147483647, a), (0, 0, (-2147483648), 2147483647, b)] (xa_svR (xa_svI (fun _ _ _ _ => by omega) (xa_svI (fun _ _ _ _ => by omega) xa_sv0))) ?_
  refine xa_meth (Q0 := (3, 2, false, 0, 0, 12)) (by decide +kernel) ⟨rfl, rfl⟩ (full := s_c_256) rfl rfl ?_
  intro hM hv Q hgo
  have b0 := xm_f0 hM
  have b6 := xm_f6 hM
  refine hgo.1 30 [] 0 _ _ _ ?_
  show xa_C xm_I A h0 _ 214 [(0, 0, (-2147483648), 2147483647, a), (0, 0, 10, 10, 10), (0, 0, 400, 400, 400)] (xa_up M 60 21 0) _
  refine ct_in ?_ ?_
  · intro (i1 : 10 ≤ a ∧ a ≤ 400)
    show xa_C xm_I A h0 _ 214 [(0, 0, (-2147483648), 2147483647, b), (0, 0, (-2147483648), 2147483647, a), (0, 0, 400, 400, 400)] (xa_up M 60 21 0) _
    refine ct_in ?_ ?_
    · intro (i2 : a ≤ b ∧ b ≤ 400)
      refine And.intro ?_ ?_
      · intro (c3 : (xa_w32 (b - a)) ≤ 200)
        refine And.intro (show 10 ≤ a ∧ a ≤ 400 by omega) ?_
        refine And.intro (show 10 ≤ b ∧ b ≤ 400 by omega) ?_
        show post (some (0, 0, 1, 1, 1)) (xa_up (xa_up (xa_up M 60 21 0) 60 15 a) 60 16 b)
        refine k _ _ (xm_Inv_b (M := M) (fun j => by simp [xa_up]) (fun j => by simp [xa_up]) hI (fun w w0 w1 => ?_) (fun m m0 m1 => ?_) (fun p p0 p1 => ?_) ?_)
        · have h := hI.1 w w0 (by simp [xa_up] at w1; omega)
          simp [xa_up]
          exact h
        · have h := hI.2.1 m m0 (by simp [xa_up] at m1; omega)
          simp [xa_up]
          exact h
        · have h := hI.2.2.1 p p0 (by simp [xa_up] at p1; omega)
          simp [xa_up]
          exact h
        · simp [xa_up]
          omega
      · intro (c3 : 200 < (xa_w32 (b - a)))
        show post (some (0, 0, 0, 0, 0)) (xa_up M 60 21 0)
        exact k _ _ (xm_Inv_cor (xm_cor_f (by omega) xm_cor_r) hI)
    · intro (i2 : ¬ (a ≤ b ∧ b ≤ 400))
      show post (some (0, 0, 0, 0, 0)) (xa_up M 60 21 0)
      exact k _ _ (xm_Inv_cor (xm_cor_f (by omega) xm_cor_r) hI)
  · intro (i1 : ¬ (10 ≤ a ∧ a ≤ 400))
    show post (some (0, 0, 0, 0, 0)) (xa_up M 60 21 0)
    exact k _ _ (xm_Inv_cor (xm_cor_f (by omega) xm_cor_r) hI)
theorem ms_take {A : Nat → Nat} {h0 : g_H} {d : Nat} {M : xa_M} {post : Option xa_V → xa_M → Prop} {l1 u1 l2 u2 : Int} {a b : Int} (hI : xm_Inv M) (k : ∀ (o : Option xa_V) (M1 : xa_M), xm_Inv M1 → post o M1) : xa_C xm_I A h0 (d + 3) 218 [(2, 60, 0, 0, 0), (0, 0, l1, u1, a), (0, 0, l2, u2, b)] M post := by
  refine xa_C_arg [(2, 60, 0, 0, 0), (0, 0, (-2147483648), 2147483647, a), (0, 0, (-2147483648), 2147483647, b)] (xa_svR (xa_svI (fun _ _ _ _ => by omega) (xa_svI (fun _ _ _ _ => by omega) xa_sv0))) ?_
  refine xa_meth (Q0 := (4, 1, false, 0, 0, 12)) (by decide +kernel) ⟨rfl, rfl⟩ (full := s_c_218) rfl rfl ?_
  intro hM hv Q hgo
  have b0 := xm_f0 hM
  have b6 := xm_f6 hM
  have ta : 0 ≤ a → a < 14 → (0 ≤ M 61 a ∧ M 61 a ≤ 400) ∧ (0 ≤ M 62 a ∧ M 62 a ≤ 400) := fun h1 h2 => ⟨xm_t61 hM a h1 h2, xm_t62 hM a h1 h2⟩
  have ha : 0 ≤ a → a < M 60 0 → 10 ≤ M 61 a ∧ M 61 a ≤ M 62 a ∧ 10 ≤ M 63 a := hI.1 a
  refine hgo.1 34 [] 0 _ _ _ ?_
  show xa_C xm_I A h0 _ 217 [(2, 60, 0, 0, 0), (0, 0, (-2147483648), 2147483647, a)] (xa_up M 60 21 0) _
  refine ct_isWheel ?_ ?_
  · intro (i1 : 0 ≤ a ∧ a < (M 60 0))
    refine And.intro (show 0 ≤ a ∧ a < 14 by omega) ?_
    refine And.intro (show 0 ≤ a ∧ a < 14 by omega) ?_
    show xa_C xm_I A h0 _ 214 [(0, 0, (-2147483648), 2147483647, b), (0, 0, 0, 400, M 61 a), (0, 0, 0, 400, M 62 a)] (xa_up M 60 21 0) _
    refine ct_in ?_ ?_
    · intro (i2 : (M 61 a) ≤ b ∧ b ≤ (M 62 a))
      refine And.intro (show 0 ≤ a ∧ a < 14 by omega) ?_
      refine And.intro (show 0 ≤ a ∧ a < 14 by omega) ?_
      refine And.intro (show 0 ≤ b ∧ b ≤ 400 by omega) ?_
      show post (some (0, 0, 0, 400, M 63 a)) (xa_up (xa_up M 60 21 0) 63 a b)
      refine k _ _ (xm_Inv_b (M := M) (fun j => by simp [xa_up]) (fun j => by simp [xa_up]) hI (fun w w0 w1 => ?_) (fun m m0 m1 => ?_) (fun p p0 p1 => ?_) ?_)
      · have h := hI.1 w w0 (by simp [xa_up] at w1; omega)
        by_cases e : w = a
        · subst e
          simp [xa_up]
          omega
        · simp [xa_up, e]
          exact h
      · have h := hI.2.1 m m0 (by simp [xa_up] at m1; omega)
        simp [xa_up]
        exact h
      · have h := hI.2.2.1 p p0 (by simp [xa_up] at p1; omega)
        simp [xa_up]
        exact h
      · simp [xa_up]
        exact hI.2.2.2.1
    · intro (i2 : ¬ ((M 61 a) ≤ b ∧ b ≤ (M 62 a)))
      show post (some (0, 0, (-1), (-1), (-1))) (xa_up M 60 21 0)
      exact k _ _ (xm_Inv_cor (xm_cor_f (by omega) xm_cor_r) hI)
  · intro (i1 : ¬ (0 ≤ a ∧ a < (M 60 0)))
    show post (some (0, 0, (-1), (-1), (-1))) (xa_up M 60 21 0)
    exact k _ _ (xm_Inv_cor (xm_cor_f (by omega) xm_cor_r) hI)
theorem ms_arc {A : Nat → Nat} {h0 : g_H} {d : Nat} {M : xa_M} {post : Option xa_V → xa_M → Prop} {l1 u1 l2 u2 l3 u3 l4 u4 : Int} {a b c e : Int} (hI : xm_Inv M) (k : ∀ (o : Option xa_V) (M1 : xa_M), xm_Inv M1 → post o M1) : xa_C xm_I A h0 (d + 3) 216 [(2, 60, 0, 0, 0), (0, 0, l1, u1, a), (0, 0, l2, u2, b), (0, 0, l3, u3, c), (0, 0, l4, u4, e)] M post := by
  refine xa_C_arg [(2, 60, 0, 0, 0), (0, 0, (-2147483648), 2147483647, a), (0, 0, (-2147483648), 2147483647, b), (0, 0, (-2147483648), 2147483647, c), (0, 0, (-2147483648), 2147483647, e)] (xa_svR (xa_svI (fun _ _ _ _ => by omega) (xa_svI (fun _ _ _ _ => by omega) (xa_svI (fun _ _ _ _ => by omega) (xa_svI (fun _ _ _ _ => by omega) xa_sv0))))) ?_
  refine xa_meth (Q0 := (7, 1, false, 0, 0, 12)) (by decide +kernel) ⟨rfl, rfl⟩ (full := s_c_216) rfl rfl ?_
  intro hM hv Q hgo
  have b0 := xm_f0 hM
  have b6 := xm_f6 hM
  have ta : 0 ≤ a → a < 14 → (0 ≤ M 61 a ∧ M 61 a ≤ 400) ∧ (0 ≤ M 62 a ∧ M 62 a ≤ 400) := fun h1 h2 => ⟨xm_t61 hM a h1 h2, xm_t62 hM a h1 h2⟩
  have ha : 0 ≤ a → a < M 60 0 → 10 ≤ M 61 a ∧ M 61 a ≤ M 62 a ∧ 10 ≤ M 63 a := hI.1 a
  refine hgo.1 31 [54] 0 _ _ _ ?_
  show xa_C xm_I A h0 _ 217 [(2, 60, 0, 0, 0), (0, 0, (-2147483648), 2147483647, a)] (xa_up M 60 21 0) _
  refine ct_isWheel ?_ ?_
  · intro (i1 : 0 ≤ a ∧ a < (M 60 0))
    show xa_C xm_I A h0 _ 214 [(0, 0, (-2147483648), 2147483647, b), (0, 0, 1, 1, 1), (0, 0, 200, 200, 200)] (xa_up M 60 21 0) _
    refine ct_in ?_ ?_
    · intro (i2 : 1 ≤ b ∧ b ≤ 200)
      show xa_C xm_I A h0 _ 214 [(0, 0, (-2147483648), 2147483647, c), (0, 0, 1, 1, 1), (0, 0, 3600, 3600, 3600)] (xa_up M 60 21 0) _
      refine ct_in ?_ ?_
      · intro (i3 : 1 ≤ c ∧ c ≤ 3600)
        show xa_C xm_I A h0 _ 214 [(0, 0, (-2147483648), 2147483647, e), (0, 0, 0, 0, 0), (0, 0, 100, 100, 100)] (xa_up M 60 21 0) _
        refine ct_in ?_ ?_
        · intro (i4 : 0 ≤ e ∧ e ≤ 100)
          refine And.intro ?_ ?_
          · intro (c5 : e < c)
            show Q 54 [(0, (2, 60, 0, 0, 0)), (1, (0, 0, (-2147483648), 2147483647, a)), (2, (0, 0, (-2147483648), 2147483647, b)), (3, (0, 0, (-2147483648), 2147483647, c)), (4, (0, 0, (-2147483648), 2147483647, e))] [] (xa_up M 60 21 0)
            refine hgo.2.1 54 _ [(0, (2, 60, 0, 0, 0)), (1, (0, 0, 0, 13, a)), (2, (0, 0, 1, 200, b)), (3, (0, 0, 1, 3600, c)), (4, (0, 0, 0, 100, e))] _ _ (xa_subR rfl (xa_subI rfl rfl (fun _ _ _ _ => by omega) (xa_subI rfl rfl (fun _ _ _ _ => by omega) (xa_subI rfl rfl (fun _ _ _ _ => by omega) (xa_subI rfl rfl (fun _ _ _ _ => by omega) xa_sub0))))) ?_
            refine hgo.1 60 [] 54 _ _ _ ?_
            show xa_C xm_I A h0 _ 35 [(0, 0, 0, 400, M 61 a), (0, 0, 0, 723699, ((((3600 * b) + c) + e) - 1) / (c + e))] (xa_up M 60 21 0) _
            refine ct_max 0 723699 (by decide) (by decide) (by decide) (fun r106 br106 er106 => ?_)
            refine And.intro (show 0 < (c - e) by omega) ?_
            show xa_C xm_I A h0 _ 32 [(0, 0, 0, 400, M 62 a), (0, 0, 0, 720000, (3600 * b) / (c - e))] (xa_up M 60 21 0) _
            refine ct_min 0 400 (by decide) (by decide) (by decide) (fun r107 br107 er107 => ?_)
            refine And.intro ?_ ?_
            · intro (c108 : r106 ≤ r107)
              refine And.intro (show 0 ≤ r106 ∧ r106 ≤ 400 by omega) ?_
              refine And.intro (show 0 ≤ r106 ∧ r106 ≤ 400 by omega) ?_
              show post (some (0, 0, (-723698), 401, (r107 - r106) + 1)) (xa_up (xa_up (xa_up (xa_up M 60 21 0) 61 a r106) 62 a r107) 63 a r106)
              refine k _ _ (xm_Inv_b (M := M) (fun j => by simp [xa_up]) (fun j => by simp [xa_up]) hI (fun w w0 w1 => ?_) (fun m m0 m1 => ?_) (fun p p0 p1 => ?_) ?_)
              · have h := hI.1 w w0 (by simp [xa_up] at w1; omega)
                by_cases e : w = a
                · subst e
                  simp [xa_up]
                  omega
                · simp [xa_up, e]
                  exact h
              · have h := hI.2.1 m m0 (by simp [xa_up] at m1; omega)
                simp [xa_up]
                exact h
              · have h := hI.2.2.1 p p0 (by simp [xa_up] at p1; omega)
                simp [xa_up]
                exact h
              · simp [xa_up]
                exact hI.2.2.2.1
            · intro (c108 : r107 < r106)
              show post (some (0, 0, (-2), (-2), (-2))) (xa_up M 60 21 0)
              exact k _ _ (xm_Inv_cor (xm_cor_f (by omega) xm_cor_r) hI)
          · intro (c5 : c ≤ e)
            show post (some (0, 0, (-1), (-1), (-1))) (xa_up M 60 21 0)
            exact k _ _ (xm_Inv_cor (xm_cor_f (by omega) xm_cor_r) hI)
        · intro (i4 : ¬ (0 ≤ e ∧ e ≤ 100))
          show post (some (0, 0, (-1), (-1), (-1))) (xa_up M 60 21 0)
          exact k _ _ (xm_Inv_cor (xm_cor_f (by omega) xm_cor_r) hI)
      · intro (i3 : ¬ (1 ≤ c ∧ c ≤ 3600))
        show post (some (0, 0, (-1), (-1), (-1))) (xa_up M 60 21 0)
        exact k _ _ (xm_Inv_cor (xm_cor_f (by omega) xm_cor_r) hI)
    · intro (i2 : ¬ (1 ≤ b ∧ b ≤ 200))
      show post (some (0, 0, (-1), (-1), (-1))) (xa_up M 60 21 0)
      exact k _ _ (xm_Inv_cor (xm_cor_f (by omega) xm_cor_r) hI)
  · intro (i1 : ¬ (0 ≤ a ∧ a < (M 60 0)))
    show post (some (0, 0, (-1), (-1), (-1))) (xa_up M 60 21 0)
    exact k _ _ (xm_Inv_cor (xm_cor_f (by omega) xm_cor_r) hI)
theorem ms_of {A : Nat → Nat} {h0 : g_H} {d : Nat} {M : xa_M} {post : Option xa_V → xa_M → Prop} {l1 u1 l2 u2 : Int} {a b : Int} (hI : xm_Inv M) (k : ∀ (o : Option xa_V) (M1 : xa_M), xm_Inv M1 → post o M1) : xa_C xm_I A h0 (d + 3) 223 [(2, 60, 0, 0, 0), (0, 0, l1, u1, a), (0, 0, l2, u2, b)] M post := by
  refine xa_C_arg [(2, 60, 0, 0, 0), (0, 0, (-2147483648), 2147483647, a), (0, 0, (-2147483648), 2147483647, b)] (xa_svR (xa_svI (fun _ _ _ _ => by omega) (xa_svI (fun _ _ _ _ => by omega) xa_sv0))) ?_
  refine xa_meth (Q0 := (5, 1, false, 0, 0, 12)) (by decide +kernel) ⟨rfl, rfl⟩ (full := s_c_223) rfl rfl ?_
  intro hM hv Q hgo
  have b0 := xm_f0 hM
  have b6 := xm_f6 hM
  have loop : ∀ (n : Nat) (o c : Int), 0 ≤ o → o ≤ 14 → 14 - o < (n : Int) → Q 99 [(4, (0, 0, 0, 14, o)), (3, (0, 0, (-2147483648), 2147483647, c)), (1, (0, 0, (-2147483648), 2147483647, a)), (0, (2, 60, 0, 0, 0))] [] (xa_up M 60 21 0) := by
    intro n
    induction n with
    | zero => intro o c h1 h2 hms; omega
    | succ n ih =>
      intro o c h1 h2 hms
      refine hgo.1 22 [99] 99 _ _ _ ?_
      refine And.intro ?_ ?_
      · intro (c1 : (M 60 0) ≤ o)
        show post (some (0, 0, (-2147483648), 2147483647, c)) (xa_up M 60 21 0)
        exact k _ _ (xm_Inv_cor (xm_cor_f (by omega) xm_cor_r) hI)
      · intro (c1 : o < (M 60 0))
        show xa_C xm_I A h0 _ 221 [(2, 60, 0, 0, 0), (0, 0, (-2147483648), 2147483647, a), (0, 0, 0, 14, o)] (xa_up M 60 21 0) _
        refine ct_areMeshed (fun r2 zr2 er2 => ?_)
        refine And.intro ?_ ?_
        · intro (c3 : r2 = 0)
          show Q 99 [(4, (0, 0, 1, 15, o + 1)), (3, (0, 0, (-2147483648), 2147483647, c)), (1, (0, 0, (-2147483648), 2147483647, a)), (0, (2, 60, 0, 0, 0))] [] (xa_up M 60 21 0)
          refine hgo.2.1 99 _ [(4, (0, 0, 0, 14, o + 1)), (3, (0, 0, (-2147483648), 2147483647, c)), (1, (0, 0, (-2147483648), 2147483647, a)), (0, (2, 60, 0, 0, 0))] _ _ (xa_subI rfl rfl (fun _ _ _ _ => by omega) (xa_subI rfl rfl (fun _ _ _ _ => by omega) (xa_subI rfl rfl (fun _ _ _ _ => by omega) (xa_subR rfl xa_sub0)))) ?_
          exact ih (o + 1) c (by omega) (by omega) (by omega)
        · intro (c3 : ¬ r2 = 0)
          show Q 99 [(4, (0, 0, 1, 15, o + 1)), (3, (0, 0, (-2147483648), 2147483647, xa_ib 4 c (xa_ib 6 1 o))), (1, (0, 0, (-2147483648), 2147483647, a)), (0, (2, 60, 0, 0, 0))] [] (xa_up M 60 21 0)
          refine hgo.2.1 99 _ [(4, (0, 0, 0, 14, o + 1)), (3, (0, 0, (-2147483648), 2147483647, xa_ib 4 c (xa_ib 6 1 o))), (1, (0, 0, (-2147483648), 2147483647, a)), (0, (2, 60, 0, 0, 0))] _ _ (xa_subI rfl rfl (fun _ _ _ _ => by omega) (xa_subI rfl rfl (fun _ _ _ _ => by omega) (xa_subI rfl rfl (fun _ _ _ _ => by omega) (xa_subR rfl xa_sub0)))) ?_
          exact ih (o + 1) (xa_ib 4 c (xa_ib 6 1 o)) (by omega) (by omega) (by omega)
  refine hgo.1 36 [99] 0 _ _ _ ?_
  show xa_C xm_I A h0 _ 217 [(2, 60, 0, 0, 0), (0, 0, (-2147483648), 2147483647, a)] (xa_up M 60 21 0) _
  refine ct_isWheel ?_ ?_
  · intro (i1 : 0 ≤ a ∧ a < (M 60 0))
    show xa_C xm_I A h0 _ 214 [(0, 0, (-2147483648), 2147483647, b), (0, 0, 0, 0, 0), (0, 0, 5, 5, 5)] (xa_up M 60 21 0) _
    refine ct_in ?_ ?_
    · intro (i2 : 0 ≤ b ∧ b ≤ 5)
      refine And.intro ?_ ?_
      · intro (c3 : 5 ≤ b)
        show Q 99 [(4, (0, 0, 0, 0, 0)), (3, (0, 0, 0, 0, 0)), (0, (2, 60, 0, 0, 0)), (1, (0, 0, (-2147483648), 2147483647, a)), (2, (0, 0, (-2147483648), 2147483647, b))] [] (xa_up M 60 21 0)
        refine hgo.2.1 99 _ [(4, (0, 0, 0, 14, 0)), (3, (0, 0, (-2147483648), 2147483647, 0)), (1, (0, 0, (-2147483648), 2147483647, a)), (0, (2, 60, 0, 0, 0))] _ _ (xa_subI rfl rfl (fun _ _ _ _ => by omega) (xa_subI rfl rfl (fun _ _ _ _ => by omega) (xa_subI rfl rfl (fun _ _ _ _ => by omega) (xa_subR rfl xa_sub0)))) ?_
        exact loop 15 0 0 (by omega) (by omega) (by omega)
      · intro (c3 : b < 5)
        refine And.intro ?_ ?_
        · intro (c4 : ¬ b = 0)
          refine And.intro ?_ ?_
          · intro (c5 : ¬ b = 1)
            refine And.intro ?_ ?_
            · intro (c6 : ¬ b = 2)
              refine And.intro ?_ ?_
              · intro (c7 : ¬ b = 3)
                refine And.intro (show 0 ≤ a ∧ a < 14 by omega) ?_
                show post (some (0, 0, 0, 9, M 65 a)) (xa_up M 60 21 0)
                exact k _ _ (xm_Inv_cor (xm_cor_f (by omega) xm_cor_r) hI)
              · intro (c7 : b = 3)
                refine And.intro (show 0 ≤ a ∧ a < 14 by omega) ?_
                show post (some (0, 0, 0, 9, M 64 a)) (xa_up M 60 21 0)
                exact k _ _ (xm_Inv_cor (xm_cor_f (by omega) xm_cor_r) hI)
            · intro (c6 : b = 2)
              refine And.intro (show 0 ≤ a ∧ a < 14 by omega) ?_
              show post (some (0, 0, 0, 400, M 63 a)) (xa_up M 60 21 0)
              exact k _ _ (xm_Inv_cor (xm_cor_f (by omega) xm_cor_r) hI)
          · intro (c5 : b = 1)
            refine And.intro (show 0 ≤ a ∧ a < 14 by omega) ?_
            show post (some (0, 0, 0, 400, M 62 a)) (xa_up M 60 21 0)
            exact k _ _ (xm_Inv_cor (xm_cor_f (by omega) xm_cor_r) hI)
        · intro (c4 : b = 0)
          refine And.intro (show 0 ≤ a ∧ a < 14 by omega) ?_
          show post (some (0, 0, 0, 400, M 61 a)) (xa_up M 60 21 0)
          exact k _ _ (xm_Inv_cor (xm_cor_f (by omega) xm_cor_r) hI)
    · intro (i2 : ¬ (0 ≤ b ∧ b ≤ 5))
      show xa_C xm_I A h0 _ 224 [(2, 60, 0, 0, 0)] (xa_up M 60 21 0) _
      refine ct_lost ?_
      show post (some (0, 0, 0, 0, 0)) (xa_up (xa_up M 60 21 0) 60 21 1)
      exact k _ _ (xm_Inv_cor (xm_cor_f (by omega) (xm_cor_f (by omega) xm_cor_r)) hI)
  · intro (i1 : ¬ (0 ≤ a ∧ a < (M 60 0)))
    show xa_C xm_I A h0 _ 224 [(2, 60, 0, 0, 0)] (xa_up M 60 21 0) _
    refine ct_lost ?_
    show post (some (0, 0, 0, 0, 0)) (xa_up (xa_up M 60 21 0) 60 21 1)
    exact k _ _ (xm_Inv_cor (xm_cor_f (by omega) (xm_cor_f (by omega) xm_cor_r)) hI)
theorem ms_row {A : Nat → Nat} {h0 : g_H} {d : Nat} {M : xa_M} {post : Option xa_V → xa_M → Prop} {l1 u1 : Int} {a : Int} (hI : xm_Inv M) (k : ∀ (o : Option xa_V) (M1 : xa_M), xm_Inv M1 → post o M1) : xa_C xm_I A h0 (d + 2) 301 [(2, 60, 0, 0, 0), (0, 0, l1, u1, a)] M post := by
  refine xa_C_arg [(2, 60, 0, 0, 0), (0, 0, (-2147483648), 2147483647, a)] (xa_svR (xa_svI (fun _ _ _ _ => by omega) xa_sv0)) ?_
  refine xa_meth (Q0 := (2, 3, false, 0, 0, 12)) (by decide +kernel) ⟨rfl, rfl⟩ (full := s_c_301) rfl rfl ?_
  intro hM hv Q hgo
  have b20 := xm_f20 hM
  refine hgo.1 21 [] 0 _ _ _ ?_
  show xa_C xm_I A h0 _ 214 [(0, 0, (-2147483648), 2147483647, a), (0, 0, 0, 0, 0), (0, 0, (-1), 31, (M 60 20) - 1)] (xa_up M 60 21 0) _
  refine ct_in ?_ ?_
  · intro (i1 : 0 ≤ a ∧ a ≤ ((M 60 20) - 1))
    refine And.intro (show 0 ≤ a ∧ a < 32 by omega) ?_
    show post (some (1, 0, (-9223372036854775808), 9223372036854775807, M 74 a)) (xa_up M 60 21 0)
    exact k _ _ (xm_Inv_cor (xm_cor_f (by omega) xm_cor_r) hI)
  · intro (i1 : ¬ (0 ≤ a ∧ a ≤ ((M 60 20) - 1)))
    show xa_C xm_I A h0 _ 224 [(2, 60, 0, 0, 0)] (xa_up M 60 21 0) _
    refine ct_lost ?_
    show post (some (1, 0, 0, 0, 0)) (xa_up (xa_up M 60 21 0) 60 21 1)
    exact k _ _ (xm_Inv_cor (xm_cor_f (by omega) (xm_cor_f (by omega) xm_cor_r)) hI)
theorem ms_sheet {A : Nat → Nat} {h0 : g_H} {d : Nat} {M : xa_M} {post : Option xa_V → xa_M → Prop} {l1 u1 l2 u2 l3 u3 l4 u4 : Int} {a b c e : Int} (hI : xm_Inv M) (k : ∀ (o : Option xa_V) (M1 : xa_M), xm_Inv M1 → post o M1) : xa_C xm_I A h0 (d + 3) 219 [(2, 60, 0, 0, 0), (0, 0, l1, u1, a), (0, 0, l2, u2, b), (0, 0, l3, u3, c), (0, 0, l4, u4, e)] M post := by
  refine xa_C_arg [(2, 60, 0, 0, 0), (0, 0, (-2147483648), 2147483647, a), (0, 0, (-2147483648), 2147483647, b), (0, 0, (-2147483648), 2147483647, c), (0, 0, (-2147483648), 2147483647, e)] (xa_svR (xa_svI (fun _ _ _ _ => by omega) (xa_svI (fun _ _ _ _ => by omega) (xa_svI (fun _ _ _ _ => by omega) (xa_svI (fun _ _ _ _ => by omega) xa_sv0))))) ?_
  refine xa_meth (Q0 := (9, 1, false, 0, 0, 12)) (by decide +kernel) ⟨rfl, rfl⟩ (full := s_c_219) rfl rfl ?_
  intro hM hv Q hgo
  have b0 := xm_f0 hM
  have b6 := xm_f6 hM
  have loop : ∀ (n : Nat) (w v t : Int) (M1 : xa_M), 0 ≤ w → w ≤ 14 → (∀ q j, ¬ xm_scr q j → ¬ q = 63 → M1 q j = M q j) → (∀ x, 0 ≤ x → x < M 60 0 → 10 ≤ M1 63 x) → 14 - w < (n : Int) → Q 43 [(7, (0, 0, 0, 14, w)), (6, (0, 0, (-2147483648), 2147483647, v)), (5, (0, 0, (-2147483648), 2147483647, t)), (4, (0, 0, (-2147483648), 2147483647, e)), (2, (0, 0, (-2147483648), 14, b)), (1, (0, 0, 0, 3, a)), (0, (2, 60, 0, 0, 0))] [] M1 := by
    intro n
    induction n with
    | zero => intro w v t M1 h1 h2 hs ht hms; omega
    | succ n ih =>
      intro w v t M1 h1 h2 hs ht hms
      refine hgo.2.2 _ _ _ _ (fun hM1 _ => ?_)
      have e0 := hs 60 0 (by omega) (by omega)
      have a1 := hs 61 w (by omega) (by omega)
      have hw := hI.1 w h1
      have t61 : w < 14 → 0 ≤ M1 61 w ∧ M1 61 w ≤ 400 := xm_t61 hM1 w h1
      refine hgo.1 49 [43] 43 _ _ _ ?_
      refine And.intro ?_ ?_
      · intro (c1 : (M1 60 0) ≤ w)
        refine And.intro ?_ ?_
        · intro (c2 : ¬ a = 3)
          show post (some (0, 0, (-2147483648), 2147483647, t)) M1
          exact k _ _ (xm_Inv_b (M := M) (fun j => hs 104 j (by omega) (by omega)) (fun j => hs 105 j (by omega) (by omega)) hI (fun x x0 x1 => by
            rw [e0] at x1
            rw [hs 61 x (by omega) (by omega), hs 62 x (by omega) (by omega)]
            have h := hI.1 x x0 x1
            exact ⟨h.1, h.2.1, ht x x0 x1⟩) (fun m m0 m1 => by
            rw [hs 60 6 (by omega) (by omega)] at m1
            rw [hs 66 m (by omega) (by omega), hs 67 m (by omega) (by omega), e0]
            exact hI.2.1 m m0 m1) (fun p p0 p1 => by
            rw [hs 60 11 (by omega) (by omega)] at p1
            rw [hs 70 p (by omega) (by omega), hs 71 p (by omega) (by omega)]
            exact hI.2.2.1 p p0 p1) (by
            rw [hs 60 15 (by omega) (by omega), hs 60 16 (by omega) (by omega)]
            exact hI.2.2.2.1))
        · intro (c2 : a = 3)
          show post (some (0, 0, (-3), (-3), (-3))) M1
          exact k _ _ (xm_Inv_b (M := M) (fun j => hs 104 j (by omega) (by omega)) (fun j => hs 105 j (by omega) (by omega)) hI (fun x x0 x1 => by
            rw [e0] at x1
            rw [hs 61 x (by omega) (by omega), hs 62 x (by omega) (by omega)]
            have h := hI.1 x x0 x1
            exact ⟨h.1, h.2.1, ht x x0 x1⟩) (fun m m0 m1 => by
            rw [hs 60 6 (by omega) (by omega)] at m1
            rw [hs 66 m (by omega) (by omega), hs 67 m (by omega) (by omega), e0]
            exact hI.2.1 m m0 m1) (fun p p0 p1 => by
            rw [hs 60 11 (by omega) (by omega)] at p1
            rw [hs 70 p (by omega) (by omega), hs 71 p (by omega) (by omega)]
            exact hI.2.2.1 p p0 p1) (by
            rw [hs 60 15 (by omega) (by omega), hs 60 16 (by omega) (by omega)]
            exact hI.2.2.2.1))
      · intro (c1 : w < (M1 60 0))
        refine And.intro ?_ ?_
        · intro (c3 : a = 3)
          refine And.intro ?_ ?_
          · intro (c4 : ¬ a = 0)
            refine And.intro ?_ ?_
            · intro (c5 : ¬ a = 1)
              refine And.intro ?_ ?_
              · intro (c6 : ¬ a = 3)
                refine And.intro (show 0 ≤ w ∧ w < 14 by omega) ?_
                refine And.intro (show 0 ≤ w ∧ w < 14 by omega) ?_
                show xa_C xm_I A h0 _ 32 [(0, 0, 0, 400, M1 62 w), (0, 0, (-2147483648), 2147483647, v)] M1 _
                refine ct_min (-2147483648) 400 (by decide) (by decide) (by decide) (fun r7 br7 er7 => ?_)
                show xa_C xm_I A h0 _ 35 [(0, 0, 0, 400, M1 61 w), (0, 0, (-2147483648), 400, r7)] M1 _
                refine ct_max 0 400 (by decide) (by decide) (by decide) (fun r8 br8 er8 => ?_)
                refine And.intro (show 0 ≤ w ∧ w < 14 by omega) ?_
                show Q 43 [(7, (0, 0, 1, 15, w + 1)), (5, (0, 0, (-2147483648), 2147483647, xa_w32 (t + 1))), (6, (0, 0, (-2147483648), 2147483647, xa_w32 (v + e))), (8, (0, 0, (-2147483648), 2147483647, v)), (4, (0, 0, (-2147483648), 2147483647, e)), (2, (0, 0, (-2147483648), 14, b)), (1, (0, 0, 0, 3, a)), (0, (2, 60, 0, 0, 0))] [] (xa_up M1 63 w r8)
                refine hgo.2.1 43 _ [(7, (0, 0, 0, 14, w + 1)), (6, (0, 0, (-2147483648), 2147483647, xa_w32 (v + e))), (5, (0, 0, (-2147483648), 2147483647, xa_w32 (t + 1))), (4, (0, 0, (-2147483648), 2147483647, e)), (2, (0, 0, (-2147483648), 14, b)), (1, (0, 0, 0, 3, a)), (0, (2, 60, 0, 0, 0))] _ _ (xa_subI rfl rfl (fun _ _ _ _ => by omega) (xa_subI rfl rfl (fun _ _ _ _ => by omega) (xa_subI rfl rfl (fun _ _ _ _ => by omega) (xa_subI rfl rfl (fun _ _ _ _ => by omega) (xa_subI rfl rfl (fun _ _ _ _ => by omega) (xa_subI rfl rfl (fun _ _ _ _ => by omega) (xa_subR rfl xa_sub0))))))) ?_
                exact ih (w + 1) (xa_w32 (v + e)) (xa_w32 (t + 1)) (xa_up M1 63 w r8) (by omega) (by omega) (fun q j hn hq => by
                  rw [xa_up_ne (fun e => hq e.1)]
                  exact hs q j hn hq) (fun x x0 x1 => by
                  by_cases e : x = w
                  · subst e
                    simp [xa_up]
                    omega
                  · simp [xa_up, e]
                    exact ht x x0 x1) (by omega)
              · intro (c6 : a = 3)
                refine And.intro (show 0 ≤ w ∧ w < 14 by omega) ?_
                refine And.intro (show 0 ≤ w ∧ w < 14 by omega) ?_
                show Q 43 [(7, (0, 0, 1, 15, w + 1)), (5, (0, 0, (-2147483648), 2147483647, xa_w32 (t + 1))), (6, (0, 0, (-2147483648), 2147483647, xa_w32 (v + e))), (8, (0, 0, (-2147483648), 2147483647, v)), (4, (0, 0, (-2147483648), 2147483647, e)), (2, (0, 0, (-2147483648), 14, b)), (1, (0, 0, 0, 3, a)), (0, (2, 60, 0, 0, 0))] [] (xa_up M1 63 w (M1 61 w))
                refine hgo.2.1 43 _ [(7, (0, 0, 0, 14, w + 1)), (6, (0, 0, (-2147483648), 2147483647, xa_w32 (v + e))), (5, (0, 0, (-2147483648), 2147483647, xa_w32 (t + 1))), (4, (0, 0, (-2147483648), 2147483647, e)), (2, (0, 0, (-2147483648), 14, b)), (1, (0, 0, 0, 3, a)), (0, (2, 60, 0, 0, 0))] _ _ (xa_subI rfl rfl (fun _ _ _ _ => by omega) (xa_subI rfl rfl (fun _ _ _ _ => by omega) (xa_subI rfl rfl (fun _ _ _ _ => by omega) (xa_subI rfl rfl (fun _ _ _ _ => by omega) (xa_subI rfl rfl (fun _ _ _ _ => by omega) (xa_subI rfl rfl (fun _ _ _ _ => by omega) (xa_subR rfl xa_sub0))))))) ?_
                exact ih (w + 1) (xa_w32 (v + e)) (xa_w32 (t + 1)) (xa_up M1 63 w (M1 61 w)) (by omega) (by omega) (fun q j hn hq => by
                  rw [xa_up_ne (fun e => hq e.1)]
                  exact hs q j hn hq) (fun x x0 x1 => by
                  by_cases e : x = w
                  · subst e
                    simp [xa_up]
                    omega
                  · simp [xa_up, e]
                    exact ht x x0 x1) (by omega)
            · intro (c5 : a = 1)
              refine And.intro ?_ ?_
              · intro (c9 : ¬ a = 3)
                refine And.intro (show 0 ≤ w ∧ w < 14 by omega) ?_
                refine And.intro (show 0 ≤ w ∧ w < 14 by omega) ?_
                show xa_C xm_I A h0 _ 32 [(0, 0, 0, 400, M1 62 w), (0, 0, (-32768), 32767, xa_i16 v)] M1 _
                refine ct_min (-32768) 400 (by decide) (by decide) (by decide) (fun r10 br10 er10 => ?_)
                show xa_C xm_I A h0 _ 35 [(0, 0, 0, 400, M1 61 w), (0, 0, (-32768), 400, r10)] M1 _
                refine ct_max 0 400 (by decide) (by decide) (by decide) (fun r11 br11 er11 => ?_)
                refine And.intro (show 0 ≤ w ∧ w < 14 by omega) ?_
                show Q 43 [(7, (0, 0, 1, 15, w + 1)), (5, (0, 0, (-2147483648), 2147483647, xa_w32 (t + 1))), (6, (0, 0, (-2147483648), 2147483647, xa_w32 (v + e))), (8, (0, 0, (-32768), 32767, xa_i16 v)), (4, (0, 0, (-2147483648), 2147483647, e)), (2, (0, 0, (-2147483648), 14, b)), (1, (0, 0, 0, 3, a)), (0, (2, 60, 0, 0, 0))] [] (xa_up M1 63 w r11)
                refine hgo.2.1 43 _ [(7, (0, 0, 0, 14, w + 1)), (6, (0, 0, (-2147483648), 2147483647, xa_w32 (v + e))), (5, (0, 0, (-2147483648), 2147483647, xa_w32 (t + 1))), (4, (0, 0, (-2147483648), 2147483647, e)), (2, (0, 0, (-2147483648), 14, b)), (1, (0, 0, 0, 3, a)), (0, (2, 60, 0, 0, 0))] _ _ (xa_subI rfl rfl (fun _ _ _ _ => by omega) (xa_subI rfl rfl (fun _ _ _ _ => by omega) (xa_subI rfl rfl (fun _ _ _ _ => by omega) (xa_subI rfl rfl (fun _ _ _ _ => by omega) (xa_subI rfl rfl (fun _ _ _ _ => by omega) (xa_subI rfl rfl (fun _ _ _ _ => by omega) (xa_subR rfl xa_sub0))))))) ?_
                exact ih (w + 1) (xa_w32 (v + e)) (xa_w32 (t + 1)) (xa_up M1 63 w r11) (by omega) (by omega) (fun q j hn hq => by
                  rw [xa_up_ne (fun e => hq e.1)]
                  exact hs q j hn hq) (fun x x0 x1 => by
                  by_cases e : x = w
                  · subst e
                    simp [xa_up]
                    omega
                  · simp [xa_up, e]
                    exact ht x x0 x1) (by omega)
              · intro (c9 : a = 3)
                refine And.intro (show 0 ≤ w ∧ w < 14 by omega) ?_
                refine And.intro (show 0 ≤ w ∧ w < 14 by omega) ?_
                show Q 43 [(7, (0, 0, 1, 15, w + 1)), (5, (0, 0, (-2147483648), 2147483647, xa_w32 (t + 1))), (6, (0, 0, (-2147483648), 2147483647, xa_w32 (v + e))), (8, (0, 0, (-32768), 32767, xa_i16 v)), (4, (0, 0, (-2147483648), 2147483647, e)), (2, (0, 0, (-2147483648), 14, b)), (1, (0, 0, 0, 3, a)), (0, (2, 60, 0, 0, 0))] [] (xa_up M1 63 w (M1 61 w))
                refine hgo.2.1 43 _ [(7, (0, 0, 0, 14, w + 1)), (6, (0, 0, (-2147483648), 2147483647, xa_w32 (v + e))), (5, (0, 0, (-2147483648), 2147483647, xa_w32 (t + 1))), (4, (0, 0, (-2147483648), 2147483647, e)), (2, (0, 0, (-2147483648), 14, b)), (1, (0, 0, 0, 3, a)), (0, (2, 60, 0, 0, 0))] _ _ (xa_subI rfl rfl (fun _ _ _ _ => by omega) (xa_subI rfl rfl (fun _ _ _ _ => by omega) (xa_subI rfl rfl (fun _ _ _ _ => by omega) (xa_subI rfl rfl (fun _ _ _ _ => by omega) (xa_subI rfl rfl (fun _ _ _ _ => by omega) (xa_subI rfl rfl (fun _ _ _ _ => by omega) (xa_subR rfl xa_sub0))))))) ?_
                exact ih (w + 1) (xa_w32 (v + e)) (xa_w32 (t + 1)) (xa_up M1 63 w (M1 61 w)) (by omega) (by omega) (fun q j hn hq => by
                  rw [xa_up_ne (fun e => hq e.1)]
                  exact hs q j hn hq) (fun x x0 x1 => by
                  by_cases e : x = w
                  · subst e
                    simp [xa_up]
                    omega
                  · simp [xa_up, e]
                    exact ht x x0 x1) (by omega)
          · intro (c4 : a = 0)
            refine And.intro ?_ ?_
            · intro (c12 : ¬ a = 3)
              refine And.intro (show 0 ≤ w ∧ w < 14 by omega) ?_
              refine And.intro (show 0 ≤ w ∧ w < 14 by omega) ?_
              show xa_C xm_I A h0 _ 32 [(0, 0, 0, 400, M1 62 w), (0, 0, (-128), 127, xa_i8 v)] M1 _
              refine ct_min (-128) 127 (by decide) (by decide) (by decide) (fun r13 br13 er13 => ?_)
              show xa_C xm_I A h0 _ 35 [(0, 0, 0, 400, M1 61 w), (0, 0, (-128), 127, r13)] M1 _
              refine ct_max 0 400 (by decide) (by decide) (by decide) (fun r14 br14 er14 => ?_)
              refine And.intro (show 0 ≤ w ∧ w < 14 by omega) ?_
              show Q 43 [(7, (0, 0, 1, 15, w + 1)), (5, (0, 0, (-2147483648), 2147483647, xa_w32 (t + 1))), (6, (0, 0, (-2147483648), 2147483647, xa_w32 (v + e))), (8, (0, 0, (-128), 127, xa_i8 v)), (4, (0, 0, (-2147483648), 2147483647, e)), (2, (0, 0, (-2147483648), 14, b)), (1, (0, 0, 0, 3, a)), (0, (2, 60, 0, 0, 0))] [] (xa_up M1 63 w r14)
              refine hgo.2.1 43 _ [(7, (0, 0, 0, 14, w + 1)), (6, (0, 0, (-2147483648), 2147483647, xa_w32 (v + e))), (5, (0, 0, (-2147483648), 2147483647, xa_w32 (t + 1))), (4, (0, 0, (-2147483648), 2147483647, e)), (2, (0, 0, (-2147483648), 14, b)), (1, (0, 0, 0, 3, a)), (0, (2, 60, 0, 0, 0))] _ _ (xa_subI rfl rfl (fun _ _ _ _ => by omega) (xa_subI rfl rfl (fun _ _ _ _ => by omega) (xa_subI rfl rfl (fun _ _ _ _ => by omega) (xa_subI rfl rfl (fun _ _ _ _ => by omega) (xa_subI rfl rfl (fun _ _ _ _ => by omega) (xa_subI rfl rfl (fun _ _ _ _ => by omega) (xa_subR rfl xa_sub0))))))) ?_
              exact ih (w + 1) (xa_w32 (v + e)) (xa_w32 (t + 1)) (xa_up M1 63 w r14) (by omega) (by omega) (fun q j hn hq => by
                rw [xa_up_ne (fun e => hq e.1)]
                exact hs q j hn hq) (fun x x0 x1 => by
                by_cases e : x = w
                · subst e
                  simp [xa_up]
                  omega
                · simp [xa_up, e]
                  exact ht x x0 x1) (by omega)
            · intro (c12 : a = 3)
              refine And.intro (show 0 ≤ w ∧ w < 14 by omega) ?_
              refine And.intro (show 0 ≤ w ∧ w < 14 by omega) ?_
              show Q 43 [(7, (0, 0, 1, 15, w + 1)), (5, (0, 0, (-2147483648), 2147483647, xa_w32 (t + 1))), (6, (0, 0, (-2147483648), 2147483647, xa_w32 (v + e))), (8, (0, 0, (-128), 127, xa_i8 v)), (4, (0, 0, (-2147483648), 2147483647, e)), (2, (0, 0, (-2147483648), 14, b)), (1, (0, 0, 0, 3, a)), (0, (2, 60, 0, 0, 0))] [] (xa_up M1 63 w (M1 61 w))
              refine hgo.2.1 43 _ [(7, (0, 0, 0, 14, w + 1)), (6, (0, 0, (-2147483648), 2147483647, xa_w32 (v + e))), (5, (0, 0, (-2147483648), 2147483647, xa_w32 (t + 1))), (4, (0, 0, (-2147483648), 2147483647, e)), (2, (0, 0, (-2147483648), 14, b)), (1, (0, 0, 0, 3, a)), (0, (2, 60, 0, 0, 0))] _ _ (xa_subI rfl rfl (fun _ _ _ _ => by omega) (xa_subI rfl rfl (fun _ _ _ _ => by omega) (xa_subI rfl rfl (fun _ _ _ _ => by omega) (xa_subI rfl rfl (fun _ _ _ _ => by omega) (xa_subI rfl rfl (fun _ _ _ _ => by omega) (xa_subI rfl rfl (fun _ _ _ _ => by omega) (xa_subR rfl xa_sub0))))))) ?_
              exact ih (w + 1) (xa_w32 (v + e)) (xa_w32 (t + 1)) (xa_up M1 63 w (M1 61 w)) (by omega) (by omega) (fun q j hn hq => by
                rw [xa_up_ne (fun e => hq e.1)]
                exact hs q j hn hq) (fun x x0 x1 => by
                by_cases e : x = w
                · subst e
                  simp [xa_up]
                  omega
                · simp [xa_up, e]
                  exact ht x x0 x1) (by omega)
        · intro (c3 : ¬ a = 3)
          refine And.intro ?_ ?_
          · intro (c15 : b ≤ w)
            refine And.intro ?_ ?_
            · intro (c16 : ¬ a = 3)
              show post (some (0, 0, (-2147483648), 2147483647, t)) M1
              exact k _ _ (xm_Inv_b (M := M) (fun j => hs 104 j (by omega) (by omega)) (fun j => hs 105 j (by omega) (by omega)) hI (fun x x0 x1 => by
                rw [e0] at x1
                rw [hs 61 x (by omega) (by omega), hs 62 x (by omega) (by omega)]
                have h := hI.1 x x0 x1
                exact ⟨h.1, h.2.1, ht x x0 x1⟩) (fun m m0 m1 => by
                rw [hs 60 6 (by omega) (by omega)] at m1
                rw [hs 66 m (by omega) (by omega), hs 67 m (by omega) (by omega), e0]
                exact hI.2.1 m m0 m1) (fun p p0 p1 => by
                rw [hs 60 11 (by omega) (by omega)] at p1
                rw [hs 70 p (by omega) (by omega), hs 71 p (by omega) (by omega)]
                exact hI.2.2.1 p p0 p1) (by
                rw [hs 60 15 (by omega) (by omega), hs 60 16 (by omega) (by omega)]
                exact hI.2.2.2.1))
            · intro (c16 : a = 3)
              show post (some (0, 0, (-3), (-3), (-3))) M1
              exact k _ _ (xm_Inv_b (M := M) (fun j => hs 104 j (by omega) (by omega)) (fun j => hs 105 j (by omega) (by omega)) hI (fun x x0 x1 => by
                rw [e0] at x1
                rw [hs 61 x (by omega) (by omega), hs 62 x (by omega) (by omega)]
                have h := hI.1 x x0 x1
                exact ⟨h.1, h.2.1, ht x x0 x1⟩) (fun m m0 m1 => by
                rw [hs 60 6 (by omega) (by omega)] at m1
                rw [hs 66 m (by omega) (by omega), hs 67 m (by omega) (by omega), e0]
                exact hI.2.1 m m0 m1) (fun p p0 p1 => by
                rw [hs 60 11 (by omega) (by omega)] at p1
                rw [hs 70 p (by omega) (by omega), hs 71 p (by omega) (by omega)]
                exact hI.2.2.1 p p0 p1) (by
                rw [hs 60 15 (by omega) (by omega), hs 60 16 (by omega) (by omega)]
                exact hI.2.2.2.1))
          · intro (c15 : w < b)
            refine And.intro ?_ ?_
            · intro (c17 : ¬ a = 0)
              refine And.intro ?_ ?_
              · intro (c18 : ¬ a = 1)
                refine And.intro ?_ ?_
                · intro (c19 : ¬ a = 3)
                  refine And.intro (show 0 ≤ w ∧ w < 14 by omega) ?_
                  refine And.intro (show 0 ≤ w ∧ w < 14 by omega) ?_
                  show xa_C xm_I A h0 _ 32 [(0, 0, 0, 400, M1 62 w), (0, 0, (-2147483648), 2147483647, v)] M1 _
                  refine ct_min (-2147483648) 400 (by decide) (by decide) (by decide) (fun r20 br20 er20 => ?_)
                  show xa_C xm_I A h0 _ 35 [(0, 0, 0, 400, M1 61 w), (0, 0, (-2147483648), 400, r20)] M1 _
                  refine ct_max 0 400 (by decide) (by decide) (by decide) (fun r21 br21 er21 => ?_)
                  refine And.intro (show 0 ≤ w ∧ w < 14 by omega) ?_
                  show Q 43 [(7, (0, 0, 1, 15, w + 1)), (5, (0, 0, (-2147483648), 2147483647, xa_w32 (t + 1))), (6, (0, 0, (-2147483648), 2147483647, xa_w32 (v + e))), (8, (0, 0, (-2147483648), 2147483647, v)), (4, (0, 0, (-2147483648), 2147483647, e)), (2, (0, 0, (-2147483648), 14, b)), (1, (0, 0, 0, 3, a)), (0, (2, 60, 0, 0, 0))] [] (xa_up M1 63 w r21)
                  refine hgo.2.1 43 _ [(7, (0, 0, 0, 14, w + 1)), (6, (0, 0, (-2147483648), 2147483647, xa_w32 (v + e))), (5, (0, 0, (-2147483648), 2147483647, xa_w32 (t + 1))), (4, (0, 0, (-2147483648), 2147483647, e)), (2, (0, 0, (-2147483648), 14, b)), (1, (0, 0, 0, 3, a)), (0, (2, 60, 0, 0, 0))] _ _ (xa_subI rfl rfl (fun _ _ _ _ => by omega) (xa_subI rfl rfl (fun _ _ _ _ => by omega) (xa_subI rfl rfl (fun _ _ _ _ => by omega) (xa_subI rfl rfl (fun _ _ _ _ => by omega) (xa_subI rfl rfl (fun _ _ _ _ => by omega) (xa_subI rfl rfl (fun _ _ _ _ => by omega) (xa_subR rfl xa_sub0))))))) ?_
                  exact ih (w + 1) (xa_w32 (v + e)) (xa_w32 (t + 1)) (xa_up M1 63 w r21) (by omega) (by omega) (fun q j hn hq => by
                    rw [xa_up_ne (fun e => hq e.1)]
                    exact hs q j hn hq) (fun x x0 x1 => by
                    by_cases e : x = w
                    · subst e
                      simp [xa_up]
                      omega
                    · simp [xa_up, e]
                      exact ht x x0 x1) (by omega)
                · intro (c19 : a = 3)
                  refine And.intro (show 0 ≤ w ∧ w < 14 by omega) ?_
                  refine And.intro (show 0 ≤ w ∧ w < 14 by omega) ?_
                  show Q 43 [(7, (0, 0, 1, 15, w + 1)), (5, (0, 0, (-2147483648), 2147483647, xa_w32 (t + 1))), (6, (0, 0, (-2147483648), 2147483647, xa_w32 (v + e))), (8, (0, 0, (-2147483648), 2147483647, v)), (4, (0, 0, (-2147483648), 2147483647, e)), (2, (0, 0, (-2147483648), 14, b)), (1, (0, 0, 0, 3, a)), (0, (2, 60, 0, 0, 0))] [] (xa_up M1 63 w (M1 61 w))
                  refine hgo.2.1 43 _ [(7, (0, 0, 0, 14, w + 1)), (6, (0, 0, (-2147483648), 2147483647, xa_w32 (v + e))), (5, (0, 0, (-2147483648), 2147483647, xa_w32 (t + 1))), (4, (0, 0, (-2147483648), 2147483647, e)), (2, (0, 0, (-2147483648), 14, b)), (1, (0, 0, 0, 3, a)), (0, (2, 60, 0, 0, 0))] _ _ (xa_subI rfl rfl (fun _ _ _ _ => by omega) (xa_subI rfl rfl (fun _ _ _ _ => by omega) (xa_subI rfl rfl (fun _ _ _ _ => by omega) (xa_subI rfl rfl (fun _ _ _ _ => by omega) (xa_subI rfl rfl (fun _ _ _ _ => by omega) (xa_subI rfl rfl (fun _ _ _ _ => by omega) (xa_subR rfl xa_sub0))))))) ?_
                  exact ih (w + 1) (xa_w32 (v + e)) (xa_w32 (t + 1)) (xa_up M1 63 w (M1 61 w)) (by omega) (by omega) (fun q j hn hq => by
                    rw [xa_up_ne (fun e => hq e.1)]
                    exact hs q j hn hq) (fun x x0 x1 => by
                    by_cases e : x = w
                    · subst e
                      simp [xa_up]
                      omega
                    · simp [xa_up, e]
                      exact ht x x0 x1) (by omega)
              · intro (c18 : a = 1)
                refine And.intro ?_ ?_
                · intro (c22 : ¬ a = 3)
                  refine And.intro (show 0 ≤ w ∧ w < 14 by omega) ?_
                  refine And.intro (show 0 ≤ w ∧ w < 14 by omega) ?_
                  show xa_C xm_I A h0 _ 32 [(0, 0, 0, 400, M1 62 w), (0, 0, (-32768), 32767, xa_i16 v)] M1 _
                  refine ct_min (-32768) 400 (by decide) (by decide) (by decide) (fun r23 br23 er23 => ?_)
                  show xa_C xm_I A h0 _ 35 [(0, 0, 0, 400, M1 61 w), (0, 0, (-32768), 400, r23)] M1 _
                  refine ct_max 0 400 (by decide) (by decide) (by decide) (fun r24 br24 er24 => ?_)
                  refine And.intro (show 0 ≤ w ∧ w < 14 by omega) ?_
                  show Q 43 [(7, (0, 0, 1, 15, w + 1)), (5, (0, 0, (-2147483648), 2147483647, xa_w32 (t + 1))), (6, (0, 0, (-2147483648), 2147483647, xa_w32 (v + e))), (8, (0, 0, (-32768), 32767, xa_i16 v)), (4, (0, 0, (-2147483648), 2147483647, e)), (2, (0, 0, (-2147483648), 14, b)), (1, (0, 0, 0, 3, a)), (0, (2, 60, 0, 0, 0))] [] (xa_up M1 63 w r24)
                  refine hgo.2.1 43 _ [(7, (0, 0, 0, 14, w + 1)), (6, (0, 0, (-2147483648), 2147483647, xa_w32 (v + e))), (5, (0, 0, (-2147483648), 2147483647, xa_w32 (t + 1))), (4, (0, 0, (-2147483648), 2147483647, e)), (2, (0, 0, (-2147483648), 14, b)), (1, (0, 0, 0, 3, a)), (0, (2, 60, 0, 0, 0))] _ _ (xa_subI rfl rfl (fun _ _ _ _ => by omega) (xa_subI rfl rfl (fun _ _ _ _ => by omega) (xa_subI rfl rfl (fun _ _ _ _ => by omega) (xa_subI rfl rfl (fun _ _ _ _ => by omega) (xa_subI rfl rfl (fun _ _ _ _ => by omega) (xa_subI rfl rfl (fun _ _ _ _ => by omega) (xa_subR rfl xa_sub0))))))) ?_
                  exact ih (w + 1) (xa_w32 (v + e)) (xa_w32 (t + 1)) (xa_up M1 63 w r24) (by omega) (by omega) (fun q j hn hq => by
                    rw [xa_up_ne (fun e => hq e.1)]
                    exact hs q j hn hq) (fun x x0 x1 => by
                    by_cases e : x = w
                    · subst e
                      simp [xa_up]
                      omega
                    · simp [xa_up, e]
                      exact ht x x0 x1) (by omega)
                · intro (c22 : a = 3)
                  refine And.intro (show 0 ≤ w ∧ w < 14 by omega) ?_
                  refine And.intro (show 0 ≤ w ∧ w < 14 by omega) ?_
                  show Q 43 [(7, (0, 0, 1, 15, w + 1)), (5, (0, 0, (-2147483648), 2147483647, xa_w32 (t + 1))), (6, (0, 0, (-2147483648), 2147483647, xa_w32 (v + e))), (8, (0, 0, (-32768), 32767, xa_i16 v)), (4, (0, 0, (-2147483648), 2147483647, e)), (2, (0, 0, (-2147483648), 14, b)), (1, (0, 0, 0, 3, a)), (0, (2, 60, 0, 0, 0))] [] (xa_up M1 63 w (M1 61 w))
                  refine hgo.2.1 43 _ [(7, (0, 0, 0, 14, w + 1)), (6, (0, 0, (-2147483648), 2147483647, xa_w32 (v + e))), (5, (0, 0, (-2147483648), 2147483647, xa_w32 (t + 1))), (4, (0, 0, (-2147483648), 2147483647, e)), (2, (0, 0, (-2147483648), 14, b)), (1, (0, 0, 0, 3, a)), (0, (2, 60, 0, 0, 0))] _ _ (xa_subI rfl rfl (fun _ _ _ _ => by omega) (xa_subI rfl rfl (fun _ _ _ _ => by omega) (xa_subI rfl rfl (fun _ _ _ _ => by omega) (xa_subI rfl rfl (fun _ _ _ _ => by omega) (xa_subI rfl rfl (fun _ _ _ _ => by omega) (xa_subI rfl rfl (fun _ _ _ _ => by omega) (xa_subR rfl xa_sub0))))))) ?_
                  exact ih (w + 1) (xa_w32 (v + e)) (xa_w32 (t + 1)) (xa_up M1 63 w (M1 61 w)) (by omega) (by omega) (fun q j hn hq => by
                    rw [xa_up_ne (fun e => hq e.1)]
                    exact hs q j hn hq) (fun x x0 x1 => by
                    by_cases e : x = w
                    · subst e
                      simp [xa_up]
                      omega
                    · simp [xa_up, e]
                      exact ht x x0 x1) (by omega)
            · intro (c17 : a = 0)
              refine And.intro ?_ ?_
              · intro (c25 : ¬ a = 3)
                refine And.intro (show 0 ≤ w ∧ w < 14 by omega) ?_
                refine And.intro (show 0 ≤ w ∧ w < 14 by omega) ?_
                show xa_C xm_I A h0 _ 32 [(0, 0, 0, 400, M1 62 w), (0, 0, (-128), 127, xa_i8 v)] M1 _
                refine ct_min (-128) 127 (by decide) (by decide) (by decide) (fun r26 br26 er26 => ?_)
                show xa_C xm_I A h0 _ 35 [(0, 0, 0, 400, M1 61 w), (0, 0, (-128), 127, r26)] M1 _
                refine ct_max 0 400 (by decide) (by decide) (by decide) (fun r27 br27 er27 => ?_)
                refine And.intro (show 0 ≤ w ∧ w < 14 by omega) ?_
                show Q 43 [(7, (0, 0, 1, 15, w + 1)), (5, (0, 0, (-2147483648), 2147483647, xa_w32 (t + 1))), (6, (0, 0, (-2147483648), 2147483647, xa_w32 (v + e))), (8, (0, 0, (-128), 127, xa_i8 v)), (4, (0, 0, (-2147483648), 2147483647, e)), (2, (0, 0, (-2147483648), 14, b)), (1, (0, 0, 0, 3, a)), (0, (2, 60, 0, 0, 0))] [] (xa_up M1 63 w r27)
                refine hgo.2.1 43 _ [(7, (0, 0, 0, 14, w + 1)), (6, (0, 0, (-2147483648), 2147483647, xa_w32 (v + e))), (5, (0, 0, (-2147483648), 2147483647, xa_w32 (t + 1))), (4, (0, 0, (-2147483648), 2147483647, e)), (2, (0, 0, (-2147483648), 14, b)), (1, (0, 0, 0, 3, a)), (0, (2, 60, 0, 0, 0))] _ _ (xa_subI rfl rfl (fun _ _ _ _ => by omega) (xa_subI rfl rfl (fun _ _ _ _ => by omega) (xa_subI rfl rfl (fun _ _ _ _ => by omega) (xa_subI rfl rfl (fun _ _ _ _ => by omega) (xa_subI rfl rfl (fun _ _ _ _ => by omega) (xa_subI rfl rfl (fun _ _ _ _ => by omega) (xa_subR rfl xa_sub0))))))) ?_
                exact ih (w + 1) (xa_w32 (v + e)) (xa_w32 (t + 1)) (xa_up M1 63 w r27) (by omega) (by omega) (fun q j hn hq => by
                  rw [xa_up_ne (fun e => hq e.1)]
                  exact hs q j hn hq) (fun x x0 x1 => by
                  by_cases e : x = w
                  · subst e
                    simp [xa_up]
                    omega
                  · simp [xa_up, e]
                    exact ht x x0 x1) (by omega)
              · intro (c25 : a = 3)
                refine And.intro (show 0 ≤ w ∧ w < 14 by omega) ?_
                refine And.intro (show 0 ≤ w ∧ w < 14 by omega) ?_
                show Q 43 [(7, (0, 0, 1, 15, w + 1)), (5, (0, 0, (-2147483648), 2147483647, xa_w32 (t + 1))), (6, (0, 0, (-2147483648), 2147483647, xa_w32 (v + e))), (8, (0, 0, (-128), 127, xa_i8 v)), (4, (0, 0, (-2147483648), 2147483647, e)), (2, (0, 0, (-2147483648), 14, b)), (1, (0, 0, 0, 3, a)), (0, (2, 60, 0, 0, 0))] [] (xa_up M1 63 w (M1 61 w))
                refine hgo.2.1 43 _ [(7, (0, 0, 0, 14, w + 1)), (6, (0, 0, (-2147483648), 2147483647, xa_w32 (v + e))), (5, (0, 0, (-2147483648), 2147483647, xa_w32 (t + 1))), (4, (0, 0, (-2147483648), 2147483647, e)), (2, (0, 0, (-2147483648), 14, b)), (1, (0, 0, 0, 3, a)), (0, (2, 60, 0, 0, 0))] _ _ (xa_subI rfl rfl (fun _ _ _ _ => by omega) (xa_subI rfl rfl (fun _ _ _ _ => by omega) (xa_subI rfl rfl (fun _ _ _ _ => by omega) (xa_subI rfl rfl (fun _ _ _ _ => by omega) (xa_subI rfl rfl (fun _ _ _ _ => by omega) (xa_subI rfl rfl (fun _ _ _ _ => by omega) (xa_subR rfl xa_sub0))))))) ?_
                exact ih (w + 1) (xa_w32 (v + e)) (xa_w32 (t + 1)) (xa_up M1 63 w (M1 61 w)) (by omega) (by omega) (fun q j hn hq => by
                  rw [xa_up_ne (fun e => hq e.1)]
                  exact hs q j hn hq) (fun x x0 x1 => by
                  by_cases e : x = w
                  · subst e
                    simp [xa_up]
                    omega
                  · simp [xa_up, e]
                    exact ht x x0 x1) (by omega)
  refine hgo.1 27 [43] 0 _ _ _ ?_
  show xa_C xm_I A h0 _ 214 [(0, 0, (-2147483648), 2147483647, a), (0, 0, 0, 0, 0), (0, 0, 3, 3, 3)] (xa_up M 60 21 0) _
  refine ct_in ?_ ?_
  · intro (i1 : 0 ≤ a ∧ a ≤ 3)
    refine And.intro ?_ ?_
    · intro (c2 : b ≤ 14)
      refine And.intro ?_ ?_
      · intro (c3 : 3 ≤ a)
        show Q 43 [(7, (0, 0, 0, 0, 0)), (6, (0, 0, (-2147483648), 2147483647, c)), (5, (0, 0, 0, 0, 0)), (0, (2, 60, 0, 0, 0)), (1, (0, 0, (-2147483648), 2147483647, a)), (2, (0, 0, (-2147483648), 2147483647, b)), (3, (0, 0, (-2147483648), 2147483647, c)), (4, (0, 0, (-2147483648), 2147483647, e))] [] (xa_up M 60 21 0)
        refine hgo.2.1 43 _ [(7, (0, 0, 0, 14, 0)), (6, (0, 0, (-2147483648), 2147483647, c)), (5, (0, 0, (-2147483648), 2147483647, 0)), (4, (0, 0, (-2147483648), 2147483647, e)), (2, (0, 0, (-2147483648), 14, b)), (1, (0, 0, 0, 3, a)), (0, (2, 60, 0, 0, 0))] _ _ (xa_subI rfl rfl (fun _ _ _ _ => by omega) (xa_subI rfl rfl (fun _ _ _ _ => by omega) (xa_subI rfl rfl (fun _ _ _ _ => by omega) (xa_subI rfl rfl (fun _ _ _ _ => by omega) (xa_subI rfl rfl (fun _ _ _ _ => by omega) (xa_subI rfl rfl (fun _ _ _ _ => by omega) (xa_subR rfl xa_sub0))))))) ?_
        exact loop 15 0 c 0 (xa_up M 60 21 0) (by omega) (by omega) (fun q j hn hq => by rw [xa_up_ne (fun e => hn (by omega))]) (fun x x0 x1 => by simp [xa_up]; exact (hI.1 x x0 x1).2.2) (by omega)
      · intro (c3 : a < 3)
        refine And.intro ?_ ?_
        · intro (c4 : 0 ≤ b)
          show Q 43 [(7, (0, 0, 0, 0, 0)), (6, (0, 0, (-2147483648), 2147483647, c)), (5, (0, 0, 0, 0, 0)), (0, (2, 60, 0, 0, 0)), (1, (0, 0, (-2147483648), 2147483647, a)), (2, (0, 0, (-2147483648), 2147483647, b)), (3, (0, 0, (-2147483648), 2147483647, c)), (4, (0, 0, (-2147483648), 2147483647, e))] [] (xa_up M 60 21 0)
          refine hgo.2.1 43 _ [(7, (0, 0, 0, 14, 0)), (6, (0, 0, (-2147483648), 2147483647, c)), (5, (0, 0, (-2147483648), 2147483647, 0)), (4, (0, 0, (-2147483648), 2147483647, e)), (2, (0, 0, (-2147483648), 14, b)), (1, (0, 0, 0, 3, a)), (0, (2, 60, 0, 0, 0))] _ _ (xa_subI rfl rfl (fun _ _ _ _ => by omega) (xa_subI rfl rfl (fun _ _ _ _ => by omega) (xa_subI rfl rfl (fun _ _ _ _ => by omega) (xa_subI rfl rfl (fun _ _ _ _ => by omega) (xa_subI rfl rfl (fun _ _ _ _ => by omega) (xa_subI rfl rfl (fun _ _ _ _ => by omega) (xa_subR rfl xa_sub0))))))) ?_
          exact loop 15 0 c 0 (xa_up M 60 21 0) (by omega) (by omega) (fun q j hn hq => by rw [xa_up_ne (fun e => hn (by omega))]) (fun x x0 x1 => by simp [xa_up]; exact (hI.1 x x0 x1).2.2) (by omega)
        · intro (c4 : b < 0)
          show post (some (0, 0, (-2), (-2), (-2))) (xa_up M 60 21 0)
          exact k _ _ (xm_Inv_cor (xm_cor_f (by omega) xm_cor_r) hI)
    · intro (c2 : 14 < b)
      show post (some (0, 0, (-1), (-1), (-1))) (xa_up M 60 21 0)
      exact k _ _ (xm_Inv_cor (xm_cor_f (by omega) xm_cor_r) hI)
  · intro (i1 : ¬ (0 ≤ a ∧ a ≤ 3))
    show post (some (0, 0, (-1), (-1), (-1))) (xa_up M 60 21 0)
    exact k _ _ (xm_Inv_cor (xm_cor_f (by omega) xm_cor_r) hI)
