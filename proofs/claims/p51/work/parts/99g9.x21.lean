-- sure, on both sides
set_option maxRecDepth 20000
/-- other cells than those of the search have become other -/
theorem tk_r2 {N M1 M2 Ma : xa_M} {X p i : Int} (hZ : tk_Z N X p Ma) (hK : fa_K Ma M1) (hst : tk_st N p Ma M1 i) (e : ∀ (q : Nat) (j : Int), ¬ (q = 28 ∨ q = 29) → M2 q j = M1 q j) : ∃ Ma' : xa_M, tk_Z N X p Ma' ∧ fa_K Ma' M2 ∧ tk_st N p Ma' M2 i ∧ Ma' 15 10 = Ma 15 10 ∧ Ma' 21 = Ma 21 ∧ Ma' 22 = Ma 22 := by
  obtain ⟨Ma', hm⟩ : ∃ Ma' : xa_M, ∀ (q : Nat) (j : Int), Ma' q j = if q = 28 ∨ q = 29 then M2 q j else Ma q j := ⟨fun q j => if q = 28 ∨ q = 29 then M2 q j else Ma q j, fun _ _ => rfl⟩
  have hn : ∀ q, ¬ (q = 28 ∨ q = 29) → Ma' q = Ma q := fun q hq => funext (fun j => (hm q j).trans (if_neg hq))
  have hn2 : ∀ q, ¬ (q = 28 ∨ q = 29) → M2 q = M1 q := fun q hq => funext (fun j => e q j hq)
  have e15 := hn 15 (by decide)
  have e21 := hn 21 (by decide)
  have e22 := hn 22 (by decide)
  have e23 := hn 23 (by decide)
  have e24 := hn 24 (by decide)
  have f15 := hn2 15 (by decide)
  have f22 := hn2 22 (by decide)
  have f25 := hn2 25 (by decide)
  have f26 := hn2 26 (by decide)
  have f27 := hn2 27 (by decide)
  refine ⟨Ma', ?_, fun q j a b c d => ?_, ?_, by rw [e15], e21, e22⟩
  · unfold tk_Z tk_A
    rw [e15, e21, e22, e23, e24]
    exact hZ
  · by_cases hq : q = 28 ∨ q = 29
    · rw [hm q j, if_pos hq]
    · rw [hm q j, if_neg hq, e q j hq]
      exact hK q j a b c d
  · unfold tk_st fa_S fb_P at hst ⊢
    rw [e15, e21, e22, e23, e24, f15, f22, f25, f26, f27]
    exact hst
/-- what sure answers -/
def tf_101 (N : xa_M) (X p w r : Int) : Prop := ∃ (e s : Int) (W R : Int → Int), tk_S N X p e s W R ∧ ((¬ (e = 0 ∨ e = -4) ∧ r = e) ∨ ((e = 0 ∨ e = -4) ∧ (((∀ i, 0 ≤ i → i < s → ¬ W i = w) ∧ r = -1) ∨ ((∃ i, 0 ≤ i ∧ i < s ∧ W i = w) ∧ ((e = -4 ∧ r = -4) ∨ (e = 0 ∧ ((fs_c (tk_F N s W R p) (tk_pr N s W).toNat = 0 ∧ r = -2) ∨ (1 ≤ fs_c (tk_F N s W R p) (tk_pr N s W).toNat ∧ r = 0))))))))
theorem tf_101_one {N : xa_M} {X p w r r' : Int} (hM : tk_M N) (h : tf_101 N X p w r) (h' : tf_101 N X p w r') : r = r' := by
  obtain ⟨e, s, W, R, hS, h1⟩ := h
  obtain ⟨e', s', W', R', hS', h2⟩ := h'
  obtain ⟨ee, k⟩ := tk_S_one hM hS hS'
  subst ee
  rcases h1 with ⟨a1, a2⟩ | ⟨a1, a2⟩
  · rcases h2 with ⟨-, b2⟩ | ⟨b1, -⟩
    · omega
    · exact absurd b1 a1
  · rcases h2 with ⟨b1, -⟩ | ⟨-, b2⟩
    · exact absurd a1 b1
    · obtain ⟨rfl, k2⟩ := k a1
      obtain ⟨k3, k4, -, -⟩ := tk_e (M := N) k2
      rw [k3 p, k4] at b2
      rcases a2 with ⟨c1, c2⟩ | ⟨⟨i, i0, i1, i2⟩, c2⟩
      · rcases b2 with ⟨-, d2⟩ | ⟨⟨i, i0, i1, i2⟩, -⟩
        · omega
        · rw [(k2 i i0 i1).1] at i2
          exact absurd i2 (c1 i i0 i1)
      · rcases b2 with ⟨d1, -⟩ | ⟨-, d2⟩
        · exact absurd ((k2 i i0 i1).1.trans i2) (d1 i i0 i1)
        · omega
theorem cx_102t {b : Bool} {A : Nat → Nat} {h0 : g_H} {d : Nat} {M : xa_M} {post : Option xa_V → xa_M → Prop} {l1 u1 x1 : Int} (h10 : 0 ≤ M 15 10 ∧ M 15 10 ≤ 14) (k : ∀ r : Int, (r = -1 ∧ ∀ i, 0 ≤ i → i < M 15 10 → ¬ M 21 i = x1) ∨ (0 ≤ r ∧ r < M 15 10 ∧ M 21 r = x1) → post (some (0, 0, (-1), 13, r)) M) : xa_C (xl_I b) A h0 (d + 2) 102 [(2, 15, 0, 0, 0), (0, 0, l1, u1, x1)] M post := by
  refine xa_C_wk ?_
  refine xa_C_arg [(2, 15, 0, 0, 0), (0, 0, (-2147483648), 2147483647, x1)] (xa_svR (xa_svI (fun _ _ _ _ => by omega) xa_sv0)) ?_
  refine xa_meth (Q0 := (3, 1, false, 0, 0, 3)) (by decide +kernel) ⟨rfl, rfl⟩ (full := s_c_102) rfl rfl ?_
  intro hM hv Q hgo
  have loop : ∀ (f : Nat) (i : Int), 0 ≤ i ∧ i ≤ 14 → (∀ j, 0 ≤ j → j < i → ¬ M 21 j = x1) → 14 - i < (f : Int) → Q 2 [(2, (0, 0, 0, 14, i)), (0, (2, 15, 0, 0, 0)), (1, (0, 0, (-2147483648), 2147483647, x1))] [] M := by
    intro f
    induction f with
    | zero => intro i i1 hn hms; clear hn; omega
    | succ f ih =>
      intro i i1 hn hms
      refine hgo.1 17 [2] 2 _ _ _ ?_
      refine And.intro ?_ ?_
      · intro (c1 : (M 15 10) ≤ i)
        show xa_wk post (some (0, 0, (-1), (-1), (-1))) M
        exact xa_wkI _ rfl (fun _ _ => by omega) (k (-1) (Or.inl ⟨rfl, fun j j0 j1 => hn j j0 (by omega)⟩))
      · intro (c1 : i < (M 15 10))
        show xa_C (xl_I b) A h0 _ 23 [(2, 21, 0, 0, 0), (0, 0, 0, 14, i)] M _
        refine cx_23_21 (show 0 ≤ i ∧ i < 14 by omega) ?_
        refine And.intro ?_ ?_
        · intro (c2 : ¬ (M 21 i) = x1)
          show Q 2 [(2, (0, 0, 1, 15, i + 1)), (0, (2, 15, 0, 0, 0)), (1, (0, 0, (-2147483648), 2147483647, x1))] [] M
          refine hgo.2.1 2 _ [(2, (0, 0, 0, 14, i + 1)), (0, (2, 15, 0, 0, 0)), (1, (0, 0, (-2147483648), 2147483647, x1))] _ _ (xa_subI rfl rfl (fun _ _ _ _ => by omega) (xa_subR rfl (xa_subI rfl rfl (fun _ _ _ _ => by omega) (xa_sub0)))) ?_
          exact ih (i + 1) (by omega) (fun j j0 j1 => by
            by_cases e : j = i
            · rw [e]
              omega
            · exact hn j j0 (by omega)) (by omega)
        · intro (c2 : (M 21 i) = x1)
          show xa_wk post (some (0, 0, 0, 14, i)) M
          exact xa_wkI _ rfl (fun _ _ => by omega) (k i (Or.inr ⟨i1.1, by omega, by omega⟩))
  refine hgo.1 7 [2] 0 _ _ _ ?_
  show Q 2 [(2, (0, 0, 0, 0, 0)), (0, (2, 15, 0, 0, 0)), (1, (0, 0, (-2147483648), 2147483647, x1))] [] M
  refine hgo.2.1 2 _ [(2, (0, 0, 0, 14, 0)), (0, (2, 15, 0, 0, 0)), (1, (0, 0, (-2147483648), 2147483647, x1))] _ _ (xa_subI rfl rfl (fun _ _ _ _ => by omega) (xa_subR rfl (xa_subI rfl rfl (fun _ _ _ _ => by omega) (xa_sub0)))) ?_
  exact loop 15 0 (by omega) (fun j j0 j1 => by omega) (by omega)
theorem cx_89_15 {b : Bool} {A : Nat → Nat} {h0 : g_H} {d : Nat} {M : xa_M} {post : Option xa_V → xa_M → Prop} {l1 u1 : Int} {x1 : Int} (h1 : 0 ≤ x1 ∧ x1 < 14) (k1 : post (some (0, 0, (-2147483648), 2147483647, xa_w32 ((xa_w32 ((M 24 x1) - (M 23 x1))) + 1))) M) : xa_C (xl_I b) A h0 (d + 2) 89 [(2, 15, 0, 0, 0), (0, 0, l1, u1, x1)] M post := by
  refine xa_C_arg [(2, 15, 0, 0, 0), (0, 0, (-2147483648), 2147483647, x1)] (xa_svR (xa_svI (fun _ _ _ _ => by omega) (xa_sv0))) ?_
  refine xa_meth (Q0 := (2, 1, false, 0, 0, 3)) (by decide +kernel) ⟨rfl, rfl⟩ (full := s_c_89) rfl rfl ?_
  intro hM hv Q hgo
  refine hgo.1 16 [] 0 _ _ _ ?_
  show xa_C (xl_I b) A h0 _ 23 [(2, 24, 0, 0, 0), (0, 0, (-2147483648), 2147483647, x1)] M _
  refine cx_23_24 (show 0 ≤ x1 ∧ x1 < 14 by omega) ?_
  show xa_C (xl_I b) A h0 _ 23 [(2, 23, 0, 0, 0), (0, 0, (-2147483648), 2147483647, x1)] M _
  refine cx_23_23 (show 0 ≤ x1 ∧ x1 < 14 by omega) ?_
  show post (some (0, 0, (-2147483648), 2147483647, xa_w32 ((xa_w32 ((M 24 x1) - (M 23 x1))) + 1))) M
  exact k1
theorem cx_23_29 {b : Bool} {A : Nat → Nat} {h0 : g_H} {d : Nat} {M : xa_M} {post : Option xa_V → xa_M → Prop} {l1 u1 : Int} {i : Int} (h1 : 0 ≤ i ∧ i < 14) (k1 : post (some (0, 0, (-2147483648), 2147483647, M 29 i)) M) : xa_C (xl_I b) A h0 (d + 1) 23 [(2, 29, 0, 0, 0), (0, 0, l1, u1, i)] M post := by
  refine xa_C_arg [(2, 29, 0, 0, 0), (0, 0, (-2147483648), 2147483647, i)] (xa_svR (xa_svI (fun _ _ _ _ => by omega) xa_sv0)) ?_
  refine xa_meth (Q0 := (2, 1, false, 0, 0, 11)) (by decide +kernel) ⟨rfl, rfl⟩ (full := s_c_23) rfl rfl ?_
  intro hM hv Q hgo
  refine hgo.1 15 [] 0 _ _ _ ?_
  refine And.intro ?_ ?_
  · intro (c1 : i < 0)
    show post (some (0, 0, 0, 0, 0)) M
    exact absurd h1 (by omega)
  · intro (c1 : 0 ≤ i)
    refine And.intro ?_ ?_
    · intro (c2 : 14 ≤ i)
      show post (some (0, 0, 0, 0, 0)) M
      exact absurd h1 (by omega)
    · intro (c2 : i < 14)
      refine And.intro (show 0 ≤ i ∧ i < 14 by omega) ?_
      show post (some (0, 0, (-2147483648), 2147483647, M 29 i)) M
      exact k1
/-- the list's length -/
theorem tk_Sl {N : xa_M} {X p e s : Int} {W R : Int → Int} (hT : tk_M N) (h : tk_S N X p e s W R) : ¬ (e = 0 ∨ e = -4) ∨ (0 ≤ s ∧ s ≤ 14) := by
  rcases h with ⟨-, h⟩ | ⟨⟨c1, -⟩, ⟨-, h⟩ | ⟨hL, -⟩⟩
  · exact Or.inl (by omega)
  · exact Or.inl (by omega)
  · have := (tk_lst hT ⟨by omega, by omega⟩ hL).1
    exact Or.inr (by omega)
theorem tf_lmR2 {b : Bool} {U V U' V' : xa_M} (h : lm_R b (xj U V)) (e1 : ∀ (q : Nat) (j : Int), ¬ (15 ≤ q ∧ q ≤ 29) → ¬ (q = 48 ∨ q = 49) → U' q j = U q j) (e2 : xm_cor V V') : lm_R b (xj U' V') := by
  refine lm_R_k (fun q j hC => ?_) h
  unfold xj
  by_cases hq : q < 60
  · rw [if_pos hq, if_pos hq]
    exact e1 q j (by first | (have t9 := lm_Cq hC; omega) | (unfold lm_C at hC; omega)) (by first | (have t9 := lm_Cq hC; omega) | (unfold lm_C at hC; omega))
  · rw [if_neg hq, if_neg hq]
    exact e2 q j (by first | (have t9 := lm_Cq hC; unfold xm_scr; omega) | (unfold lm_C at hC; unfold xm_scr; omega))
