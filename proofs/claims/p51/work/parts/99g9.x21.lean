-- sure, on both sides
set_option maxRecDepth 20000
/-- other cells than those of the search have become other -/
theorem tk_r2 {N M1 M2 Ma : xa_M} {X p i : Int} (hZ : tk_Z N X p Ma) (hK : fa_K Ma M1) (hst : tk_st N p Ma M1 i) (e : ∀ (q : Nat) (j : Int), ¬ (q = 28 ∨ q = 29) → M2 q j = M1 q j) : ∃ Ma' : xa_M, tk_Z N X p Ma' ∧ fa_K Ma' M2 ∧ tk_st N p Ma' M2 i ∧ Ma' 15 10 = Ma 15 10 ∧ Ma' 21 = Ma 21 ∧ Ma' 22 = Ma 22 := by
  obtain ⟨Ma', hm⟩ : ∃ Ma' : xa_M, ∀ (q : Nat) (j : Int), Ma' q j = if q = 28 ∨ q = 29 then M2 q j else Ma q j := ⟨fun q j => if q = 28 ∨ q = 29 then M2 q j else Ma q j, fun _ _ => rfl⟩
  have hn : ∀ q, ¬ (q = 28 ∨ q = 29) → Ma' q = Ma q := fun q hq => funext (fun j => (hm q j).trans (if_neg hq))
  have hn2 : ∀ q, ¬ (q = 28 ∨ q = 29) → M2 q = M1 q := fun q hq => funext (fun j => e q j hq)
  have e15 := hn 15 (by decide)
  have e21 := hn 21 (by decide)
  have e22 := hn 22 (by decide)
  have e23 := hn 23 (by decide)
  have e24 := hn 24 (by decide)
  have f15 := hn2 15 (by decide)
  have f22 := hn2 22 (by decide)
  have f25 := hn2 25 (by decide)
  have f26 := hn2 26 (by decide)
  have f27 := hn2 27 (by decide)
  refine ⟨Ma', ?_, fun q j a b c d => ?_, ?_, by rw [e15], e21, e22⟩
  · unfold tk_Z tk_A
    rw [e15, e21, e22, e23, e24]
    exact hZ
  · by_cases hq : q = 28 ∨ q = 29
    · rw [hm q j, if_pos hq]
    · rw [hm q j, if_neg hq, e q j hq]
      exact hK q j a b c d
  · unfold tk_st fa_S fb_P at hst ⊢
    rw [e15, e21, e22, e23, e24, f15, f22, f25, f26, f27]
    exact hst
/-- what sure answers -/
def tf_101 (N : xa_M) (X p w r : Int) : Prop := ∃ (e s : Int) (W R : Int → Int), tk_S N X p e s W R ∧ ((¬ (e = 0 ∨ e = -4) ∧ r = e) ∨ ((e = 0 ∨ e = -4) ∧ (((∀ i, 0 ≤ i → i < s → ¬ W i = w) ∧ r = -1) ∨ ((∃ i, 0 ≤ i ∧ i < s ∧ W i = w) ∧ ((e = -4 ∧ r = -4) ∨ (e = 0 ∧ ((fs_c (tk_F N s W R p) (tk_pr N s W).toNat = 0 ∧ r = -2) ∨ (1 ≤ fs_c (tk_F N s W R p) (tk_pr N s W).toNat ∧ r = 0))))))))
theorem tf_101_one {N : xa_M} {X p w r r' : Int} (hM : tk_M N) (h : tf_101 N X p w r) (h' : tf_101 N X p w r') : r = r' := by
  obtain ⟨e, s, W, R, hS, h1⟩ := h
  obtain ⟨e', s', W', R', hS', h2⟩ := h'
  obtain ⟨ee, k⟩ := tk_S_one hM hS hS'
  subst ee
  rcases h1 with ⟨a1, a2⟩ | ⟨a1, a2⟩
  · rcases h2 with ⟨-, b2⟩ | ⟨b1, -⟩
    · omega
    · exact absurd b1 a1
  · rcases h2 with ⟨b1, -⟩ | ⟨-, b2⟩
    · exact absurd a1 b1
    · obtain ⟨rfl, k2⟩ := k a1
      obtain ⟨k3, k4, -, -⟩ := tk_e (M := N) k2
      rw [k3 p, k4] at b2
      rcases a2 with ⟨c1, c2⟩ | ⟨⟨i, i0, i1, i2⟩, c2⟩
      · rcases b2 with ⟨-, d2⟩ | ⟨⟨i, i0, i1, i2⟩, -⟩
        · omega
        · rw [(k2 i i0 i1).1] at i2
          exact absurd i2 (c1 i i0 i1)
      · rcases b2 with ⟨d1, -⟩ | ⟨-, d2⟩
        · exact absurd ((k2 i i0 i1).1.trans i2) (d1 i i0 i1)
        · omega
theorem cx_102t {b : Bool} {A : Nat → Nat} {h0 : g_H} {d : Nat} {M : xa_M} {post : Option xa_V → xa_M → Prop} {l1 u1 x1 : Int} (h10 : 0 ≤ M 15 10 ∧ M 15 10 ≤ 14) (k : ∀ r : Int, (r = -1 ∧ ∀ i, 0 ≤ i → i < M 15 10 → ¬ M 21 i = x1) ∨ (0 ≤ r ∧ r < M 15 10 ∧ M 21 r = x1) → post (some (0, 0, (-1), 13, r)) M) : xa_C (xl_I b) A h0 (d + 2) 102 [(2, 15, 0, 0, 0), (0, 0, l1, u1, x1)] M post := by
  refine xa_C_wk ?_
  refine xa_C_arg [(2, 15, 0, 0, 0), (0, 0, (-2147483648), 2147483647, x1)] (xa_svR (xa_svI (fun _ _ _ _ => by omega) xa_sv0)) ?_
  refine xa_meth (Q0 := (3, 1, false, 0, 0, 3)) (by decide +kernel) ⟨rfl, rfl⟩ (full := s_c_102) rfl rfl ?_
  intro hM hv Q hgo
  have loop : ∀ (f : Nat) (i : Int), 0 ≤ i ∧ i ≤ 14 → (∀ j, 0 ≤ j → j < i → ¬ M 21 j = x1) → 14 - i < (f : Int) → Q 2 [(2, (0, 0, 0, 14, i)), (0, (2, 15, 0, 0, 0)), (1, (0, 0, (-2147483648), 2147483647, x1))] [] M := by
    intro f
    induction f with
    | zero => intro i i1 hn hms; clear hn; omega
    | succ f ih =>
      intro i i1 hn hms
      refine hgo.1 17 [2] 2 _ _ _ ?_
      refine And.intro ?_ ?_
      · intro (c1 : (M 15 10) ≤ i)
        show xa_wk post (some (0, 0, (-1), (-1), (-1))) M
        exact xa_wkI _ rfl (fun _ _ => by omega) (k (-1) (Or.inl ⟨rfl, fun j j0 j1 => hn j j0 (by omega)⟩))
      · intro (c1 : i < (M 15 10))
        show xa_C (xl_I b) A h0 _ 23 [(2, 21, 0, 0, 0), (0, 0, 0, 14, i)] M _
        refine cx_23_21 (show 0 ≤ i ∧ i < 14 by omega) ?_
        refine And.intro ?_ ?_
        · intro (c2 : ¬ (M 21 i) = x1)
          show Q 2 [(2, (0, 0, 1, 15, i + 1)), (0, (2, 15, 0, 0, 0)), (1, (0, 0, (-2147483648), 2147483647, x1))] [] M
          refine hgo.2.1 2 _ [(2, (0, 0, 0, 14, i + 1)), (0, (2, 15, 0, 0, 0)), (1, (0, 0, (-2147483648), 2147483647, x1))] _ _ (xa_subI rfl rfl (fun _ _ _ _ => by omega) (xa_subR rfl (xa_subI rfl rfl (fun _ _ _ _ => by omega) (xa_sub0)))) ?_
          exact ih (i + 1) (by omega) (fun j j0 j1 => by
            by_cases e : j = i
            · rw [e]
              omega
            · exact hn j j0 (by omega)) (by omega)
        · intro (c2 : (M 21 i) = x1)
          show xa_wk post (some (0, 0, 0, 14, i)) M
          exact xa_wkI _ rfl (fun _ _ => by omega) (k i (Or.inr ⟨i1.1, by omega, by omega⟩))
  refine hgo.1 7 [2] 0 _ _ _ ?_
  show Q 2 [(2, (0, 0, 0, 0, 0)), (0, (2, 15, 0, 0, 0)), (1, (0, 0, (-2147483648), 2147483647, x1))] [] M
  refine hgo.2.1 2 _ [(2, (0, 0, 0, 14, 0)), (0, (2, 15, 0, 0, 0)), (1, (0, 0, (-2147483648), 2147483647, x1))] _ _ (xa_subI rfl rfl (fun _ _ _ _ => by omega) (xa_subR rfl (xa_subI rfl rfl (fun _ _ _ _ => by omega) (xa_sub0)))) ?_
  exact loop 15 0 (by omega) (fun j j0 j1 => by omega) (by omega)
theorem cx_23w_28 {b : Bool} {A : Nat → Nat} {h0 : g_H} {d : Nat} {M : xa_M} {post : Option xa_V → xa_M → Prop} {l1 u1 i : Int} (k : ∀ r : Int, post (some (0, 0, (-2147483648), 2147483647, r)) M) : xa_C (xl_I b) A h0 (d + 1) 23 [(2, 28, 0, 0, 0), (0, 0, l1, u1, i)] M post := by
  refine xa_C_wk ?_
  refine xa_C_arg [(2, 28, 0, 0, 0), (0, 0, (-2147483648), 2147483647, i)] (xa_svR (xa_svI (fun _ _ _ _ => by omega) xa_sv0)) ?_
  refine xa_meth (Q0 := (2, 1, false, 0, 0, 11)) (by decide +kernel) ⟨rfl, rfl⟩ (full := s_c_23) rfl rfl ?_
  intro hM hv Q hgo
  refine hgo.1 15 [] 0 _ _ _ ?_
  refine And.intro ?_ ?_
  · intro (c1 : i < 0)
    show xa_wk post (some (0, 0, 0, 0, 0)) M
    exact xa_wkI _ rfl (fun _ _ => by omega) (k _)
  · intro (c1 : 0 ≤ i)
    refine And.intro ?_ ?_
    · intro (c2 : 800 ≤ i)
      show xa_wk post (some (0, 0, 0, 0, 0)) M
      exact xa_wkI _ rfl (fun _ _ => by omega) (k _)
    · intro (c2 : i < 800)
      refine And.intro (show 0 ≤ i ∧ i < 800 by omega) ?_
      show xa_wk post (some (0, 0, (-2147483648), 2147483647, M 28 i)) M
      exact xa_wkI _ rfl (fun _ _ => by omega) (k _)
theorem cx_18w_28 {b : Bool} {A : Nat → Nat} {h0 : g_H} {d : Nat} {M : xa_M} {post : Option xa_V → xa_M → Prop} {l1 u1 l2 u2 i v : Int} (k : ∀ M1 : xa_M, (∀ (q : Nat) (j : Int), ¬ q = 28 → M1 q j = M q j) → post none M1) : xa_C (xl_I b) A h0 (d + 1) 18 [(2, 28, 0, 0, 0), (0, 0, l1, u1, i), (0, 0, l2, u2, v)] M post := by
  refine xa_C_arg [(2, 28, 0, 0, 0), (0, 0, (-2147483648), 2147483647, i), (0, 0, (-2147483648), 2147483647, v)] (xa_svR (xa_svI (fun _ _ _ _ => by omega) (xa_svI (fun _ _ _ _ => by omega) xa_sv0))) ?_
  refine xa_meth (Q0 := (3, 0, false, 0, 0, 11)) (by decide +kernel) ⟨rfl, rfl⟩ (full := s_c_18) rfl rfl ?_
  intro hM hv Q hgo
  refine hgo.1 15 [] 0 _ _ _ ?_
  refine And.intro ?_ ?_
  · intro (c1 : i < 0)
    show post none M
    exact k _ (fun _ _ _ => rfl)
  · intro (c1 : 0 ≤ i)
    refine And.intro ?_ ?_
    · intro (c2 : 800 ≤ i)
      show post none M
      exact k _ (fun _ _ _ => rfl)
    · intro (c2 : i < 800)
      refine And.intro (show 0 ≤ i ∧ i < 800 by omega) ?_
      show post none (xa_up M 28 i v)
      exact k _ (fun q j hq => xa_up_ne (fun e => hq e.1))
theorem cx_23w_29 {b : Bool} {A : Nat → Nat} {h0 : g_H} {d : Nat} {M : xa_M} {post : Option xa_V → xa_M → Prop} {l1 u1 i : Int} (k : ∀ r : Int, post (some (0, 0, (-2147483648), 2147483647, r)) M) : xa_C (xl_I b) A h0 (d + 1) 23 [(2, 29, 0, 0, 0), (0, 0, l1, u1, i)] M post := by
  refine xa_C_wk ?_
  refine xa_C_arg [(2, 29, 0, 0, 0), (0, 0, (-2147483648), 2147483647, i)] (xa_svR (xa_svI (fun _ _ _ _ => by omega) xa_sv0)) ?_
  refine xa_meth (Q0 := (2, 1, false, 0, 0, 11)) (by decide +kernel) ⟨rfl, rfl⟩ (full := s_c_23) rfl rfl ?_
  intro hM hv Q hgo
  refine hgo.1 15 [] 0 _ _ _ ?_
  refine And.intro ?_ ?_
  · intro (c1 : i < 0)
    show xa_wk post (some (0, 0, 0, 0, 0)) M
    exact xa_wkI _ rfl (fun _ _ => by omega) (k _)
  · intro (c1 : 0 ≤ i)
    refine And.intro ?_ ?_
    · intro (c2 : 14 ≤ i)
      show xa_wk post (some (0, 0, 0, 0, 0)) M
      exact xa_wkI _ rfl (fun _ _ => by omega) (k _)
    · intro (c2 : i < 14)
      refine And.intro (show 0 ≤ i ∧ i < 14 by omega) ?_
      show xa_wk post (some (0, 0, (-2147483648), 2147483647, M 29 i)) M
      exact xa_wkI _ rfl (fun _ _ => by omega) (k _)
theorem cx_18w_29 {b : Bool} {A : Nat → Nat} {h0 : g_H} {d : Nat} {M : xa_M} {post : Option xa_V → xa_M → Prop} {l1 u1 l2 u2 i v : Int} (k : ∀ M1 : xa_M, (∀ (q : Nat) (j : Int), ¬ q = 29 → M1 q j = M q j) → post none M1) : xa_C (xl_I b) A h0 (d + 1) 18 [(2, 29, 0, 0, 0), (0, 0, l1, u1, i), (0, 0, l2, u2, v)] M post := by
  refine xa_C_arg [(2, 29, 0, 0, 0), (0, 0, (-2147483648), 2147483647, i), (0, 0, (-2147483648), 2147483647, v)] (xa_svR (xa_svI (fun _ _ _ _ => by omega) (xa_svI (fun _ _ _ _ => by omega) xa_sv0))) ?_
  refine xa_meth (Q0 := (3, 0, false, 0, 0, 11)) (by decide +kernel) ⟨rfl, rfl⟩ (full := s_c_18) rfl rfl ?_
  intro hM hv Q hgo
  refine hgo.1 15 [] 0 _ _ _ ?_
  refine And.intro ?_ ?_
  · intro (c1 : i < 0)
    show post none M
    exact k _ (fun _ _ _ => rfl)
  · intro (c1 : 0 ≤ i)
    refine And.intro ?_ ?_
    · intro (c2 : 14 ≤ i)
      show post none M
      exact k _ (fun _ _ _ => rfl)
    · intro (c2 : i < 14)
      refine And.intro (show 0 ≤ i ∧ i < 14 by omega) ?_
      show post none (xa_up M 29 i v)
      exact k _ (fun q j hq => xa_up_ne (fun e => hq e.1))
theorem cx_77q {b : Bool} {A : Nat → Nat} {h0 : g_H} {d : Nat} {M : xa_M} {post : Option xa_V → xa_M → Prop} {l1 u1 x1 : Int} (k : ∀ M1 : xa_M, (∀ (q : Nat) (j : Int), ¬ q = 28 → M1 q j = M q j) → post none M1) : xa_C (xl_I b) A h0 (d + 1) 77 [(2, 28, 0, 0, 0), (0, 0, l1, u1, x1)] M post := by
  refine xa_C_arg [(2, 28, 0, 0, 0), (0, 0, (-2147483648), 2147483647, x1)] (xa_svR (xa_svI (fun _ _ _ _ => by omega) xa_sv0)) ?_
  refine xa_meth (Q0 := (3, 0, false, 0, 0, 11)) (by decide +kernel) ⟨rfl, rfl⟩ (full := s_c_77) rfl rfl ?_
  intro hM hv Q hgo
  have loop : ∀ (f : Nat) (i : Int) (M1 : xa_M), 0 ≤ i ∧ i ≤ 800 → (∀ (q : Nat) (j : Int), ¬ q = 28 → M1 q j = M q j) → 800 - i < (f : Int) → Q 2 [(2, (0, 0, 0, 800, i)), (0, (2, 28, 0, 0, 0)), (1, (0, 0, (-2147483648), 2147483647, x1))] [] M1 := by
    intro f
    induction f with
    | zero => intro i M1 i1 hk hms; omega
    | succ f ih =>
      intro i M1 i1 hk hms
      refine hgo.1 15 [2] 2 _ _ _ ?_
      refine And.intro ?_ ?_
      · intro (c1 : 800 ≤ i)
        show post none M1
        exact k M1 hk
      · intro (c1 : i < 800)
        refine And.intro (show 0 ≤ i ∧ i < 800 by omega) ?_
        show Q 2 [(2, (0, 0, 1, 801, i + 1)), (0, (2, 28, 0, 0, 0)), (1, (0, 0, (-2147483648), 2147483647, x1))] [] (xa_up M1 28 i x1)
        refine hgo.2.1 2 _ [(2, (0, 0, 0, 800, i + 1)), (0, (2, 28, 0, 0, 0)), (1, (0, 0, (-2147483648), 2147483647, x1))] _ _ (xa_subI rfl rfl (fun _ _ _ _ => by omega) (xa_subR rfl (xa_subI rfl rfl (fun _ _ _ _ => by omega) (xa_sub0)))) ?_
        exact ih (i + 1) (xa_up M1 28 i x1) (by omega) (fun q j hq => (xa_up_ne (fun e => hq e.1)).trans (hk q j hq)) (by omega)
  refine hgo.1 7 [2] 0 _ _ _ ?_
  show Q 2 [(2, (0, 0, 0, 0, 0)), (0, (2, 28, 0, 0, 0)), (1, (0, 0, (-2147483648), 2147483647, x1))] [] M
  refine hgo.2.1 2 _ [(2, (0, 0, 0, 800, 0)), (0, (2, 28, 0, 0, 0)), (1, (0, 0, (-2147483648), 2147483647, x1))] _ _ (xa_subI rfl rfl (fun _ _ _ _ => by omega) (xa_subR rfl (xa_subI rfl rfl (fun _ _ _ _ => by omega) (xa_sub0)))) ?_
  exact loop 801 0 M (by omega) (fun _ _ _ => rfl) (by omega)
theorem cx_89_15 {b : Bool} {A : Nat → Nat} {h0 : g_H} {d : Nat} {M : xa_M} {post : Option xa_V → xa_M → Prop} {l1 u1 : Int} {x1 : Int} (h1 : 0 ≤ x1 ∧ x1 < 14) (k1 : post (some (0, 0, (-2147483648), 2147483647, xa_w32 ((xa_w32 ((M 24 x1) - (M 23 x1))) + 1))) M) : xa_C (xl_I b) A h0 (d + 2) 89 [(2, 15, 0, 0, 0), (0, 0, l1, u1, x1)] M post := by
  refine xa_C_arg [(2, 15, 0, 0, 0), (0, 0, (-2147483648), 2147483647, x1)] (xa_svR (xa_svI (fun _ _ _ _ => by omega) (xa_sv0))) ?_
  refine xa_meth (Q0 := (2, 1, false, 0, 0, 3)) (by decide +kernel) ⟨rfl, rfl⟩ (full := s_c_89) rfl rfl ?_
  intro hM hv Q hgo
  refine hgo.1 16 [] 0 _ _ _ ?_
  show xa_C (xl_I b) A h0 _ 23 [(2, 24, 0, 0, 0), (0, 0, (-2147483648), 2147483647, x1)] M _
  refine cx_23_24 (show 0 ≤ x1 ∧ x1 < 14 by omega) ?_
  show xa_C (xl_I b) A h0 _ 23 [(2, 23, 0, 0, 0), (0, 0, (-2147483648), 2147483647, x1)] M _
  refine cx_23_23 (show 0 ≤ x1 ∧ x1 < 14 by omega) ?_
  show post (some (0, 0, (-2147483648), 2147483647, xa_w32 ((xa_w32 ((M 24 x1) - (M 23 x1))) + 1))) M
  exact k1
theorem cx_23_29 {b : Bool} {A : Nat → Nat} {h0 : g_H} {d : Nat} {M : xa_M} {post : Option xa_V → xa_M → Prop} {l1 u1 : Int} {i : Int} (h1 : 0 ≤ i ∧ i < 14) (k1 : post (some (0, 0, (-2147483648), 2147483647, M 29 i)) M) : xa_C (xl_I b) A h0 (d + 1) 23 [(2, 29, 0, 0, 0), (0, 0, l1, u1, i)] M post := by
  refine xa_C_arg [(2, 29, 0, 0, 0), (0, 0, (-2147483648), 2147483647, i)] (xa_svR (xa_svI (fun _ _ _ _ => by omega) xa_sv0)) ?_
  refine xa_meth (Q0 := (2, 1, false, 0, 0, 11)) (by decide +kernel) ⟨rfl, rfl⟩ (full := s_c_23) rfl rfl ?_
  intro hM hv Q hgo
  refine hgo.1 15 [] 0 _ _ _ ?_
  refine And.intro ?_ ?_
  · intro (c1 : i < 0)
    show post (some (0, 0, 0, 0, 0)) M
    exact absurd h1 (by omega)
  · intro (c1 : 0 ≤ i)
    refine And.intro ?_ ?_
    · intro (c2 : 14 ≤ i)
      show post (some (0, 0, 0, 0, 0)) M
      exact absurd h1 (by omega)
    · intro (c2 : i < 14)
      refine And.intro (show 0 ≤ i ∧ i < 14 by omega) ?_
      show post (some (0, 0, (-2147483648), 2147483647, M 29 i)) M
      exact k1
theorem cx_103t {b : Bool} {A : Nat → Nat} {h0 : g_H} {d : Nat} {M : xa_M} {post : Option xa_V → xa_M → Prop} {N : xa_M} {X p : Int} (hT : tk_M N) (hZ : tk_Z N X p M) (k : ∀ (r : Int) (M1 : xa_M), (r = 0 ∧ fs_c (tk_F N (M 15 10) (M 21) (M 22) p) (tk_pr N (M 15 10) (M 21)).toNat = 0) ∨ (r = 1 ∧ 1 ≤ fs_c (tk_F N (M 15 10) (M 21) (M 22) p) (tk_pr N (M 15 10) (M 21)).toNat) → (∀ (q : Nat) (j : Int), ¬ (25 ≤ q ∧ q ≤ 29) → ¬ (q = 15 ∧ j = 13) → M1 q j = M q j) → post (some (0, 0, 0, 1, r)) M1) : xa_C (xl_I b) A h0 (d + 6) 103 [(2, 15, 0, 0, 0)] M post := by
  refine xa_C_wk ?_
  refine xa_meth (Q0 := (5, 2, false, 0, 0, 3)) (by decide +kernel) ⟨rfl, rfl⟩ (full := s_c_103) rfl rfl ?_
  intro hM hv Q hgo
  have hL1 := (tk_Zl hT hZ).1
  have loopC : ∀ (i : Int), 0 ≤ i ∧ i < 200000 → ∀ (Mc : xa_M), 0 ≤ Mc 15 10 ∧ Mc 15 10 ≤ 14 → (∀ M1 : xa_M, (∀ (q : Nat) (j : Int), ¬ (q = 28 ∨ q = 29) → M1 q j = Mc q j) → Q 54 [(2, (0, 0, 0, 200000, i + 1)), (0, (2, 15, 0, 0, 0))] [] M1) → ∀ (f : Nat) (w : Int) (M1 : xa_M), 0 ≤ w ∧ w ≤ 14 → (∀ (q : Nat) (j : Int), ¬ (q = 28 ∨ q = 29) → M1 q j = Mc q j) → 14 - w < (f : Int) → Q 69 [(3, (0, 0, 0, 14, w)), (2, (0, 0, 0, 200000, i)), (0, (2, 15, 0, 0, 0))] [] M1 := by
    intro i ii Mc m10 kk f
    induction f with
    | zero => intro w M1 w1 hb hms; omega
    | succ f ihC =>
      intro w M1 w1 hb hms
      have e10 := hb 15 10 (by decide)
      refine hgo.1 31 [69, 54] 69 _ _ _ ?_
      refine And.intro ?_ ?_
      · intro (c1 : (M1 15 10) ≤ w)
        show Q 54 [(2, (0, 0, 1, 200001, i + 1)), (3, (0, 0, 0, 14, w)), (0, (2, 15, 0, 0, 0))] [] M1
        refine hgo.2.1 54 _ [(2, (0, 0, 0, 200000, i + 1)), (0, (2, 15, 0, 0, 0))] _ _ (xa_subI rfl rfl (fun _ _ _ _ => by omega) (xa_subR rfl (xa_sub0))) ?_
        exact kk M1 hb
      · intro (c1 : w < (M1 15 10))
        show xa_C (xl_I b) A h0 _ 23 [(2, 29, 0, 0, 0), (0, 0, 0, 14, w)] M1 _
        refine cx_23_29 (show 0 ≤ w ∧ w < 14 by omega) ?_
        show xa_C (xl_I b) A h0 _ 23 [(2, 25, 0, 0, 0), (0, 0, 0, 14, w)] M1 _
        refine cx_23_25 (show 0 ≤ w ∧ w < 14 by omega) ?_
        show xa_C (xl_I b) A h0 _ 23 [(2, 28, 0, 0, 0), (0, 0, (-2147483648), 2147483647, xa_w32 ((M1 29 w) + (M1 25 w)))] M1 _
        refine cx_23w_28 ?_
        intro r102
        show xa_C (xl_I b) A h0 _ 18 [(2, 28, 0, 0, 0), (0, 0, (-2147483648), 2147483647, xa_w32 ((M1 29 w) + (M1 25 w))), (0, 0, (-2147483648), 2147483647, xa_w32 (r102 + 1))] M1 _
        refine cx_18w_28 ?_
        intro M103 (i2 : ∀ (q : Nat) (j : Int), ¬ q = 28 → M103 q j = M1 q j)
        show Q 69 [(3, (0, 0, 1, 15, w + 1)), (4, (0, 0, (-2147483648), 2147483647, xa_w32 ((M1 29 w) + (M1 25 w)))), (2, (0, 0, 0, 200000, i)), (0, (2, 15, 0, 0, 0))] [] M103
        refine hgo.2.1 69 _ [(3, (0, 0, 0, 14, w + 1)), (2, (0, 0, 0, 200000, i)), (0, (2, 15, 0, 0, 0))] _ _ (xa_subI rfl rfl (fun _ _ _ _ => by omega) (xa_subI rfl rfl (fun _ _ _ _ => by omega) (xa_subR rfl (xa_sub0)))) ?_
        exact ihC (w + 1) M103 (by omega) (fun q j hq => (i2 q j (by omega)).trans (hb q j hq)) (by omega)
  have loopA : ∀ (f : Nat) (i : Int) (M1 : xa_M), 0 ≤ i ∧ i ≤ 200000 → (∃ Ma : xa_M, tk_Z N X p Ma ∧ fa_K Ma M1 ∧ tk_st N p Ma M1 i ∧ Ma 15 10 = M 15 10 ∧ Ma 21 = M 21 ∧ Ma 22 = M 22) → i ≤ fs_c (tk_F N (M 15 10) (M 21) (M 22) p) (tk_pr N (M 15 10) (M 21)).toNat → (∀ (q : Nat) (j : Int), ¬ (25 ≤ q ∧ q ≤ 29) → ¬ (q = 15 ∧ j = 13) → M1 q j = M q j) → 200000 - i < (f : Int) → Q 54 [(2, (0, 0, 0, 200000, i)), (0, (2, 15, 0, 0, 0))] [] M1 := by
    intro f
    induction f with
    | zero => intro i M1 i1 hE hge hfr hms; clear hE hge; omega
    | succ f ih =>
      intro i M1 i1 hE hge hfr hms
      obtain ⟨Ma, hZa, hK, hst, x10, x21, x22⟩ := hE
      refine hgo.1 15 [54, 69] 54 _ _ _ ?_
      refine And.intro ?_ ?_
      · intro (c1 : 200000 ≤ i)
        refine And.intro ?_ ?_
        · intro (c2 : i ≤ 0)
          show xa_wk post (some (0, 0, 0, 0, 0)) M1
          exfalso
          omega
        · intro (c2 : 0 < i)
          show xa_wk post (some (0, 0, 1, 1, 1)) M1
          exact xa_wkI 1 rfl (fun _ _ => by omega) (k 1 M1 (Or.inr ⟨rfl, by omega⟩) hfr)
      · intro (c1 : i < 200000)
        show xa_C (xl_I b) A h0 _ 91 [(2, 15, 0, 0, 0)] M1 _
        refine cx_91t hT hZa hK hst ?_ ?_
        · intro M104 (i3 : fa_K Ma M104) (i4 : tk_in N (Ma 15 10) (Ma 21) (M104 25)) (i5 : tk_F N (Ma 15 10) (Ma 21) (Ma 22) p (tk_rk N (Ma 15 10) (Ma 21) (M104 25))) (i6 : fs_c (tk_F N (Ma 15 10) (Ma 21) (Ma 22) p) (tk_rk N (Ma 15 10) (Ma 21) (M104 25)).toNat = i) (i7 : tk_st N p Ma M104 (i + 1))
          refine And.intro ?_ ?_
          · intro (c8 : 1 = 0)
            exfalso
            omega
          · intro (c8 : ¬ 1 = 0)
            show Q 69 [(3, (0, 0, 0, 0, 0)), (2, (0, 0, 0, 200000, i)), (0, (2, 15, 0, 0, 0))] [] M104
            rw [x10, x21] at i4
            rw [x10, x21, x22] at i5 i6
            refine hgo.2.1 69 _ [(3, (0, 0, 0, 14, 0)), (2, (0, 0, 0, 200000, i)), (0, (2, 15, 0, 0, 0))] _ _ (xa_subI rfl rfl (fun _ _ _ _ => by omega) (xa_subI rfl rfl (fun _ _ _ _ => by omega) (xa_subR rfl (xa_sub0)))) ?_
            exact loopC i (by omega) M104 (by rw [i3 15 10 (by decide) (by decide) (by decide) (by omega), x10]; omega) (fun M2 hb2 => by
              obtain ⟨Mb, z1, z2, z3, z4, z5, z6⟩ := tk_r2 hZa i3 i7 hb2
              exact ih (i + 1) M2 (by omega) ⟨Mb, z1, z2, z3, z4.trans x10, z5.trans x21, z6.trans x22⟩ (tk_ge i4 i5 i6) (fun q j h1 h2 => (hb2 q j (by omega)).trans ((i3 q j (by omega) (by omega) (by omega) h2).trans ((hK q j (by omega) (by omega) (by omega) h2).symm.trans (hfr q j h1 h2)))) (by omega)) 15 0 M104 (by omega) (fun _ _ _ => rfl) (by omega)
        · intro M104 (i9 : fa_K Ma M104) (i10 : fs_c (tk_F N (Ma 15 10) (Ma 21) (Ma 22) p) (tk_pr N (Ma 15 10) (Ma 21)).toNat = i)
          refine And.intro ?_ ?_
          · intro (c11 : 0 = 0)
            refine And.intro ?_ ?_
            · intro (c12 : i ≤ 0)
              show xa_wk post (some (0, 0, 0, 0, 0)) M104
              rw [x10, x21, x22] at i10
              exact xa_wkI 0 rfl (fun _ _ => by omega) (k 0 _ (Or.inl ⟨rfl, by omega⟩) (fun q j h1 h2 => (i9 q j (by omega) (by omega) (by omega) h2).trans ((hK q j (by omega) (by omega) (by omega) h2).symm.trans (hfr q j h1 h2))))
            · intro (c12 : 0 < i)
              show xa_wk post (some (0, 0, 1, 1, 1)) M104
              rw [x10, x21, x22] at i10
              exact xa_wkI 1 rfl (fun _ _ => by omega) (k 1 _ (Or.inr ⟨rfl, by omega⟩) (fun q j h1 h2 => (i9 q j (by omega) (by omega) (by omega) h2).trans ((hK q j (by omega) (by omega) (by omega) h2).symm.trans (hfr q j h1 h2))))
          · intro (c11 : ¬ 0 = 0)
            exfalso
            omega
  have loopB : ∀ (f : Nat) (i g : Int) (M1 : xa_M), 0 ≤ i ∧ i ≤ 14 → (∀ (q : Nat) (j : Int), ¬ (q = 28 ∨ q = 29) → M1 q j = M q j) → 14 - i < (f : Int) → Q 12 [(2, (0, 0, 0, 14, i)), (1, (0, 0, (-2147483648), 2147483647, g)), (0, (2, 15, 0, 0, 0))] [] M1 := by
    intro f
    induction f with
    | zero => intro i g M1 i1 hb hms; omega
    | succ f ihB =>
      intro i g M1 i1 hb hms
      have e10 := hb 15 10 (by decide)
      refine hgo.1 27 [12, 54] 12 _ _ _ ?_
      refine And.intro ?_ ?_
      · intro (c1 : (M1 15 10) ≤ i)
        show Q 54 [(2, (0, 0, 0, 0, 0)), (1, (0, 0, (-2147483648), 2147483647, g)), (0, (2, 15, 0, 0, 0))] [] M1
        refine hgo.2.1 54 _ [(2, (0, 0, 0, 200000, 0)), (0, (2, 15, 0, 0, 0))] _ _ (xa_subI rfl rfl (fun _ _ _ _ => by omega) (xa_subR rfl (xa_sub0))) ?_
        obtain ⟨Ma, z1, z2, z3, z4, z5, z6⟩ := tk_r2 (Ma := M) (M1 := M) (M2 := M1) hZ fa_Kr (tk_st0 hZ.2.2.2) hb
        exact loopA 200001 0 M1 (by omega) ⟨Ma, z1, z2, z3, z4, z5, z6⟩ (fs_cb _).1 (fun q j h1 h2 => hb q j (by omega)) (by omega)
      · intro (c1 : i < (M1 15 10))
        show xa_C (xl_I b) A h0 _ 23 [(2, 23, 0, 0, 0), (0, 0, 0, 14, i)] M1 _
        refine cx_23_23 (show 0 ≤ i ∧ i < 14 by omega) ?_
        show xa_C (xl_I b) A h0 _ 18 [(2, 29, 0, 0, 0), (0, 0, 0, 14, i), (0, 0, (-2147483648), 2147483647, xa_w32 (g - (M1 23 i)))] M1 _
        refine cx_18w_29 ?_
        intro M101 (i2 : ∀ (q : Nat) (j : Int), ¬ q = 29 → M101 q j = M1 q j)
        show xa_C (xl_I b) A h0 _ 89 [(2, 15, 0, 0, 0), (0, 0, 0, 14, i)] M101 _
        refine cx_89_15 (show 0 ≤ i ∧ i < 14 by omega) ?_
        show Q 12 [(2, (0, 0, 1, 15, i + 1)), (1, (0, 0, (-2147483648), 2147483647, xa_w32 (g + (xa_w32 ((xa_w32 ((M101 24 i) - (M101 23 i))) + 1))))), (0, (2, 15, 0, 0, 0))] [] M101
        refine hgo.2.1 12 _ [(2, (0, 0, 0, 14, i + 1)), (1, (0, 0, (-2147483648), 2147483647, xa_w32 (g + (xa_w32 ((xa_w32 ((M101 24 i) - (M101 23 i))) + 1))))), (0, (2, 15, 0, 0, 0))] _ _ (xa_subI rfl rfl (fun _ _ _ _ => by omega) (xa_subI rfl rfl (fun _ _ _ _ => by omega) (xa_subR rfl (xa_sub0)))) ?_
        exact ihB (i + 1) _ M101 (by omega) (fun q j hq => (i2 q j (by omega)).trans (hb q j hq)) (by omega)
  refine hgo.1 13 [12] 0 _ _ _ ?_
  show xa_C (xl_I b) A h0 _ 77 [(2, 28, 0, 0, 0), (0, 0, 0, 0, 0)] M _
  refine cx_77q ?_
  intro M105 (i1 : ∀ (q : Nat) (j : Int), ¬ q = 28 → M105 q j = M q j)
  show Q 12 [(2, (0, 0, 0, 0, 0)), (1, (0, 0, 0, 0, 0)), (0, (2, 15, 0, 0, 0))] [] M105
  refine hgo.2.1 12 _ [(2, (0, 0, 0, 14, 0)), (1, (0, 0, (-2147483648), 2147483647, 0)), (0, (2, 15, 0, 0, 0))] _ _ (xa_subI rfl rfl (fun _ _ _ _ => by omega) (xa_subI rfl rfl (fun _ _ _ _ => by omega) (xa_subR rfl (xa_sub0)))) ?_
  exact loopB 15 0 0 M105 (by omega) (fun q j hq => i1 q j (by omega)) (by omega)
theorem cx_105w {b : Bool} {A : Nat → Nat} {h0 : g_H} {d : Nat} {M : xa_M} {post : Option xa_V → xa_M → Prop} {l1 u1 l2 u2 x1 x2 : Int} (h1 : 0 ≤ x1 ∧ x1 < 14) (k : ∀ r : Int, post (some (0, 0, (-2147483648), 2147483647, r)) M) : xa_C (xl_I b) A h0 (d + 2) 105 [(2, 15, 0, 0, 0), (0, 0, l1, u1, x1), (0, 0, l2, u2, x2)] M post := by
  refine xa_C_wk ?_
  refine xa_C_arg [(2, 15, 0, 0, 0), (0, 0, (-2147483648), 2147483647, x1), (0, 0, (-2147483648), 2147483647, x2)] (xa_svR (xa_svI (fun _ _ _ _ => by omega) (xa_svI (fun _ _ _ _ => by omega) xa_sv0))) ?_
  refine xa_meth (Q0 := (3, 1, false, 0, 0, 3)) (by decide +kernel) ⟨rfl, rfl⟩ (full := s_c_105) rfl rfl ?_
  intro hM hv Q hgo
  refine hgo.1 14 [] 0 _ _ _ ?_
  show xa_C (xl_I b) A h0 _ 23 [(2, 29, 0, 0, 0), (0, 0, (-2147483648), 2147483647, x1)] M _
  refine cx_23_29 (show 0 ≤ x1 ∧ x1 < 14 by omega) ?_
  show xa_C (xl_I b) A h0 _ 23 [(2, 28, 0, 0, 0), (0, 0, (-2147483648), 2147483647, xa_w32 ((M 29 x1) + x2))] M _
  refine cx_23w_28 ?_
  intro r101
  show xa_wk post (some (0, 0, (-2147483648), 2147483647, r101)) M
  exact xa_wkI _ rfl (fun _ _ => by omega) (k _)
theorem cx_104t {b : Bool} {A : Nat → Nat} {h0 : g_H} {d : Nat} {M : xa_M} {post : Option xa_V → xa_M → Prop} {l1 u1 x1 : Int} (h1 : 0 ≤ x1 ∧ x1 < 14) (hL : 0 ≤ M 23 x1 ∧ M 23 x1 ≤ 400) (hH : M 24 x1 ≤ 400) (k : ∀ M1 : xa_M, (∀ (q : Nat) (j : Int), ¬ (q = 48 ∨ q = 49) → M1 q j = M q j) → post (some (0, 0, 0, 0, 0)) M1) : xa_C (xl_I b) A h0 (d + 3) 104 [(2, 15, 0, 0, 0), (0, 0, l1, u1, x1), (2, 48, 0, 0, 0)] M post := by
  refine xa_C_wk ?_
  refine xa_C_arg [(2, 15, 0, 0, 0), (0, 0, (-2147483648), 2147483647, x1), (2, 48, 0, 0, 0)] (xa_svR (xa_svI (fun _ _ _ _ => by omega) (xa_svR xa_sv0))) ?_
  refine xa_meth (Q0 := (7, 1, false, 0, 0, 3)) (by decide +kernel) ⟨rfl, rfl⟩ (full := s_c_104) rfl rfl ?_
  intro hM hv Q hgo
  have loop : ∀ (f : Nat) (n u v w : Int), 0 ≤ n ∧ n ≤ 401 → 401 - n < (f : Int) → Q 18 [(6, (0, 0, 0, 401, n)), (5, (0, 0, (-2147483648), 2147483647, u)), (4, (0, 0, (-2147483648), 2147483647, v)), (3, (0, 0, (-2147483648), 2147483647, w)), (0, (2, 15, 0, 0, 0)), (1, (0, 0, 0, 13, x1)), (2, (2, 48, 0, 0, 0))] [] M := by
    intro f
    induction f with
    | zero => intro n u v w n1 hms; omega
    | succ f ih =>
      intro n u v w n1 hms
      refine hgo.1 27 [18] 18 _ _ _ ?_
      show xa_C (xl_I b) A h0 _ 23 [(2, 24, 0, 0, 0), (0, 0, 0, 13, x1)] M _
      refine cx_23_24 (show 0 ≤ x1 ∧ x1 < 14 by omega) ?_
      refine And.intro ?_ ?_
      · intro (c1 : (M 24 x1) < n)
        show xa_C (xl_I b) A h0 _ 59 [(2, 48, 0, 0, 0)] M _
        refine cx_59_48 ?_
        show xa_C (xl_I b) A h0 _ 60 [(2, 48, 0, 0, 0), (1, 0, (-2147483648), 2147483647, w)] (xa_up M 48 1 0) _
        refine cx_60b (by show (0 : Int) ≤ 0; omega) ?_
        intro M101 (i2 : ∀ (q : Nat) (j : Int), ¬ (q = 48 ∨ q = 49) → M101 q j = (xa_up M 48 1 0) q j) (i3 : (0 : Int) ≤ M101 48 1)
        show xa_C (xl_I b) A h0 _ 60 [(2, 48, 0, 0, 0), (1, 0, (-2147483648), 2147483647, v)] M101 _
        refine cx_60b (by show (0 : Int) ≤ M101 48 1; omega) ?_
        intro M102 (i4 : ∀ (q : Nat) (j : Int), ¬ (q = 48 ∨ q = 49) → M102 q j = M101 q j) (i5 : (0 : Int) ≤ M102 48 1)
        show xa_C (xl_I b) A h0 _ 60 [(2, 48, 0, 0, 0), (1, 0, (-2147483648), 2147483647, u)] M102 _
        refine cx_60b (by show (0 : Int) ≤ M102 48 1; omega) ?_
        intro M103 (i6 : ∀ (q : Nat) (j : Int), ¬ (q = 48 ∨ q = 49) → M103 q j = M102 q j) (i7 : (0 : Int) ≤ M103 48 1)
        show xa_wk post (some (0, 0, 0, 0, 0)) M103
        exact xa_wkI _ rfl (fun _ _ => by omega) (k _ (fun q j hq => (i6 q j hq).trans ((i4 q j hq).trans ((i2 q j hq).trans ((xa_up_ne (by omega)))))))
      · intro (c1 : n ≤ (M 24 x1))
        show xa_C (xl_I b) A h0 _ 105 [(2, 15, 0, 0, 0), (0, 0, 0, 13, x1), (0, 0, 0, 401, n)] M _
        refine cx_105w (by omega) ?_
        intro r104
        refine And.intro ?_ ?_
        · intro (c8 : r104 ≤ 0)
          show Q 18 [(6, (0, 0, 1, 402, n + 1)), (5, (0, 0, (-2147483648), 2147483647, u)), (4, (0, 0, (-2147483648), 2147483647, v)), (3, (0, 0, (-2147483648), 2147483647, w)), (0, (2, 15, 0, 0, 0)), (1, (0, 0, 0, 13, x1)), (2, (2, 48, 0, 0, 0))] [] M
          refine hgo.2.1 18 _ [(6, (0, 0, 0, 401, n + 1)), (5, (0, 0, (-2147483648), 2147483647, u)), (4, (0, 0, (-2147483648), 2147483647, v)), (3, (0, 0, (-2147483648), 2147483647, w)), (0, (2, 15, 0, 0, 0)), (1, (0, 0, 0, 13, x1)), (2, (2, 48, 0, 0, 0))] _ _ (xa_subI rfl rfl (fun _ _ _ _ => by omega) (xa_subI rfl rfl (fun _ _ _ _ => by omega) (xa_subI rfl rfl (fun _ _ _ _ => by omega) (xa_subI rfl rfl (fun _ _ _ _ => by omega) (xa_subR rfl (xa_subI rfl rfl (fun _ _ _ _ => by omega) (xa_subR rfl (xa_sub0)))))))) ?_
          exact ih (n + 1) u v w (by omega) (by omega)
        · intro (c8 : 0 < r104)
          refine And.intro ?_ ?_
          · intro (c9 : ¬ w = (-1))
            show Q 18 [(6, (0, 0, 1, 402, n + 1)), (5, (0, 0, (-2147483648), 2147483647, xa_w32 (u + 1))), (4, (0, 0, 0, 401, n)), (3, (0, 0, (-2147483648), 2147483647, w)), (0, (2, 15, 0, 0, 0)), (1, (0, 0, 0, 13, x1)), (2, (2, 48, 0, 0, 0))] [] M
            refine hgo.2.1 18 _ [(6, (0, 0, 0, 401, n + 1)), (5, (0, 0, (-2147483648), 2147483647, xa_w32 (u + 1))), (4, (0, 0, (-2147483648), 2147483647, n)), (3, (0, 0, (-2147483648), 2147483647, w)), (0, (2, 15, 0, 0, 0)), (1, (0, 0, 0, 13, x1)), (2, (2, 48, 0, 0, 0))] _ _ (xa_subI rfl rfl (fun _ _ _ _ => by omega) (xa_subI rfl rfl (fun _ _ _ _ => by omega) (xa_subI rfl rfl (fun _ _ _ _ => by omega) (xa_subI rfl rfl (fun _ _ _ _ => by omega) (xa_subR rfl (xa_subI rfl rfl (fun _ _ _ _ => by omega) (xa_subR rfl (xa_sub0)))))))) ?_
            exact ih (n + 1) (xa_w32 (u + 1)) n w (by omega) (by omega)
          · intro (c9 : w = (-1))
            show Q 18 [(6, (0, 0, 1, 402, n + 1)), (5, (0, 0, (-2147483648), 2147483647, xa_w32 (u + 1))), (4, (0, 0, 0, 401, n)), (3, (0, 0, 0, 401, n)), (0, (2, 15, 0, 0, 0)), (1, (0, 0, 0, 13, x1)), (2, (2, 48, 0, 0, 0))] [] M
            refine hgo.2.1 18 _ [(6, (0, 0, 0, 401, n + 1)), (5, (0, 0, (-2147483648), 2147483647, xa_w32 (u + 1))), (4, (0, 0, (-2147483648), 2147483647, n)), (3, (0, 0, (-2147483648), 2147483647, n)), (0, (2, 15, 0, 0, 0)), (1, (0, 0, 0, 13, x1)), (2, (2, 48, 0, 0, 0))] _ _ (xa_subI rfl rfl (fun _ _ _ _ => by omega) (xa_subI rfl rfl (fun _ _ _ _ => by omega) (xa_subI rfl rfl (fun _ _ _ _ => by omega) (xa_subI rfl rfl (fun _ _ _ _ => by omega) (xa_subR rfl (xa_subI rfl rfl (fun _ _ _ _ => by omega) (xa_subR rfl (xa_sub0)))))))) ?_
            exact ih (n + 1) (xa_w32 (u + 1)) n n (by omega) (by omega)
  refine hgo.1 16 [18] 0 _ _ _ ?_
  show xa_C (xl_I b) A h0 _ 23 [(2, 23, 0, 0, 0), (0, 0, (-2147483648), 2147483647, x1)] M _
  refine cx_23_23 (show 0 ≤ x1 ∧ x1 < 14 by omega) ?_
  show Q 18 [(6, (0, 0, (-2147483648), 2147483647, M 23 x1)), (5, (0, 0, 0, 0, 0)), (4, (0, 0, (-1), (-1), (-1))), (3, (0, 0, (-1), (-1), (-1))), (0, (2, 15, 0, 0, 0)), (1, (0, 0, (-2147483648), 2147483647, x1)), (2, (2, 48, 0, 0, 0))] [] M
  refine hgo.2.1 18 _ [(6, (0, 0, 0, 401, M 23 x1)), (5, (0, 0, (-2147483648), 2147483647, 0)), (4, (0, 0, (-2147483648), 2147483647, (-1))), (3, (0, 0, (-2147483648), 2147483647, (-1))), (0, (2, 15, 0, 0, 0)), (1, (0, 0, 0, 13, x1)), (2, (2, 48, 0, 0, 0))] _ _ (xa_subI rfl rfl (fun _ _ _ _ => by omega) (xa_subI rfl rfl (fun _ _ _ _ => by omega) (xa_subI rfl rfl (fun _ _ _ _ => by omega) (xa_subI rfl rfl (fun _ _ _ _ => by omega) (xa_subR rfl (xa_subI rfl rfl (fun _ _ _ _ => by omega) (xa_subR rfl (xa_sub0)))))))) ?_
  exact loop 402 (M 23 x1) 0 (-1) (-1) (by omega) (by omega)
/-- the list's length -/
theorem tk_Sl {N : xa_M} {X p e s : Int} {W R : Int → Int} (hT : tk_M N) (h : tk_S N X p e s W R) : ¬ (e = 0 ∨ e = -4) ∨ (0 ≤ s ∧ s ≤ 14) := by
  rcases h with ⟨-, h⟩ | ⟨⟨c1, -⟩, ⟨-, h⟩ | ⟨hL, -⟩⟩
  · exact Or.inl (by omega)
  · exact Or.inl (by omega)
  · have := (tk_lst hT ⟨by omega, by omega⟩ hL).1
    exact Or.inr (by omega)
theorem cx_101_50 {A : Nat → Nat} {h0 : g_H} {d : Nat} {M : xa_M} {post : Option xa_V → xa_M → Prop} {l1 u1 l2 u2 l3 u3 x1 x2 x3 : Int} {F : Int → Int} {N : xa_M} (hT : tk_M N) (hR : tk_R M N) (hB : tk_B 50 M N) (hFF : 1 ≤ x1 ∧ x1 ≤ 9 → tk_Y N x1 F) (k : ∀ (lo hi r : Int) (M1 : xa_M), tf_101 N x1 x2 x3 r → (∀ (q : Nat) (j : Int), ¬ (15 ≤ q ∧ q ≤ 29) → ¬ (q = 48 ∨ q = 49) → M1 q j = M q j) → post (some (0, 0, lo, hi, r)) M1) : xa_C (xl_I false) A h0 (d + 7) 101 [(2, 0, 0, 0, 0), (0, 0, l1, u1, x1), (0, 0, l2, u2, x2), (0, 0, l3, u3, x3)] M post := by
  refine xa_C_arg [(2, 0, 0, 0, 0), (0, 0, (-2147483648), 2147483647, x1), (0, 0, (-2147483648), 2147483647, x2), (0, 0, (-2147483648), 2147483647, x3)] (xa_svR (xa_svI (fun _ _ _ _ => by omega) (xa_svI (fun _ _ _ _ => by omega) (xa_svI (fun _ _ _ _ => by omega) xa_sv0)))) ?_
  refine xa_meth (Q0 := (6, 1, false, 0, 0, 11)) (by decide +kernel) ⟨rfl, rfl⟩ (full := s_c_101) rfl rfl ?_
  intro hM hv Q hgo
  refine hgo.1 33 [] 0 _ _ _ ?_
  show xa_C (xl_I _) A h0 _ 86 [(2, 0, 0, 0, 0), (0, 0, (-2147483648), 2147483647, x1), (0, 0, (-2147483648), 2147483647, x2)] M _
  refine cx_86_50 hT hR hB hFF ?_
  intro r102 M101 (i1 : tk_S N x1 x2 r102 (M101 15 10) (M101 21) (M101 22)) (i2 : r102 = 0 → tk_A N x2 M101) (i3 : ∀ q j, ¬ (15 ≤ q ∧ q ≤ 24) → M101 q j = M q j)
  have hS := i1
  refine And.intro ?_ ?_
  · intro (c4 : r102 = 0)
    show xa_C (xl_I _) A h0 _ 102 [(2, 15, 0, 0, 0), (0, 0, (-2147483648), 2147483647, x3)] M101 _
    refine cx_102t (by have q := tk_Sl hT hS; omega) ?_
    intro r103 (i5 : (r103 = -1 ∧ ∀ i, 0 ≤ i → i < M101 15 10 → ¬ M101 21 i = x3) ∨ (0 ≤ r103 ∧ r103 < M101 15 10 ∧ M101 21 r103 = x3))
    refine And.intro ?_ ?_
    · intro (c6 : ¬ r103 = (-1))
      refine And.intro ?_ ?_
      · intro (c7 : r102 = 0)
        show xa_C (xl_I _) A h0 _ 103 [(2, 15, 0, 0, 0)] M101 _
        have er : r102 = 0 := by omega
        have hS0 := hS
        rw [er] at hS0
        obtain ⟨z1, z2, z3, z4⟩ := tk_S_L hS0
        have hZ : tk_Z N x1 x2 M101 := ⟨z1, z3, z4, i2 er⟩
        refine cx_103t hT hZ ?_
        intro r104 M105 (i8 : (r104 = 0 ∧ fs_c (tk_F N (M101 15 10) (M101 21) (M101 22) x2) (tk_pr N (M101 15 10) (M101 21)).toNat = 0) ∨ (r104 = 1 ∧ 1 ≤ fs_c (tk_F N (M101 15 10) (M101 21) (M101 22) x2) (tk_pr N (M101 15 10) (M101 21)).toNat)) (i9 : ∀ (q : Nat) (j : Int), ¬ (25 ≤ q ∧ q ≤ 29) → ¬ (q = 15 ∧ j = 13) → M105 q j = M101 q j)
        refine And.intro ?_ ?_
        · intro (c10 : r104 = 0)
          show post (some (0, 0, (-2), (-2), (-2))) M105
          rcases i5 with ⟨e, -⟩ | ⟨e1, e2, e3⟩
          · exfalso
            omega
          · exact k _ _ _ _ ⟨_, _, _, _, i1, Or.inr ⟨by omega, Or.inr ⟨⟨_, e1, e2, e3⟩, Or.inr ⟨by omega, Or.inl ⟨by omega, rfl⟩⟩⟩⟩⟩ (fun q j h1 h2 => (i9 q j (by omega) (by omega)).trans (i3 q j (by omega)))
        · intro (c10 : ¬ r104 = 0)
          show xa_C (xl_I _) A h0 _ 104 [(2, 15, 0, 0, 0), (0, 0, (-1), 13, r103), (2, 48, 0, 0, 0)] M105 _
          have pl : 0 ≤ r103 ∧ r103 < M101 15 10 := by
            rcases i5 with ⟨e, -⟩ | ⟨e1, e2, -⟩
            · omega
            · exact ⟨e1, e2⟩
          obtain ⟨zl1, -, zl2, -⟩ := tk_Zl hT hZ
          have zl3 := (zl2 r103 pl.1 pl.2).1
          have f23 := i9 23 r103 (by omega) (by omega)
          have f24 := i9 24 r103 (by omega) (by omega)
          refine cx_104t (by omega) (by omega) (by omega) ?_
          intro M106 (i11 : ∀ (q : Nat) (j : Int), ¬ (q = 48 ∨ q = 49) → M106 q j = M105 q j)
          show post (some (0, 0, 0, 0, 0)) M106
          rcases i5 with ⟨e, -⟩ | ⟨e1, e2, e3⟩
          · exfalso
            omega
          · exact k _ _ _ _ ⟨_, _, _, _, i1, Or.inr ⟨by omega, Or.inr ⟨⟨_, e1, e2, e3⟩, Or.inr ⟨by omega, Or.inr ⟨by omega, rfl⟩⟩⟩⟩⟩ (fun q j h1 h2 => (i11 q j h2).trans ((i9 q j (by omega) (by omega)).trans (i3 q j (by omega))))
      · intro (c7 : ¬ r102 = 0)
        exfalso
        omega
    · intro (c6 : r103 = (-1))
      show post (some (0, 0, (-1), (-1), (-1))) M101
      rcases i5 with ⟨-, e⟩ | ⟨e, -, -⟩
      · exact k _ _ _ _ ⟨_, _, _, _, i1, Or.inr ⟨by omega, Or.inl ⟨e, rfl⟩⟩⟩ (fun q j h1 h2 => i3 q j (by omega))
      · exfalso
        omega
  · intro (c4 : ¬ r102 = 0)
    refine And.intro ?_ ?_
    · intro (c12 : r102 = (-4))
      show xa_C (xl_I _) A h0 _ 102 [(2, 15, 0, 0, 0), (0, 0, (-2147483648), 2147483647, x3)] M101 _
      refine cx_102t (by have q := tk_Sl hT hS; omega) ?_
      intro r107 (i13 : (r107 = -1 ∧ ∀ i, 0 ≤ i → i < M101 15 10 → ¬ M101 21 i = x3) ∨ (0 ≤ r107 ∧ r107 < M101 15 10 ∧ M101 21 r107 = x3))
      refine And.intro ?_ ?_
      · intro (c14 : ¬ r107 = (-1))
        refine And.intro ?_ ?_
        · intro (c15 : r102 = 0)
          exfalso
          omega
        · intro (c15 : ¬ r102 = 0)
          show post (some (0, 0, (-4), 0, r102)) M101
          rcases i13 with ⟨e, -⟩ | ⟨e1, e2, e3⟩
          · exfalso
            omega
          · exact k _ _ _ _ ⟨_, _, _, _, i1, Or.inr ⟨by omega, Or.inr ⟨⟨_, e1, e2, e3⟩, Or.inl ⟨by omega, by omega⟩⟩⟩⟩ (fun q j h1 h2 => i3 q j (by omega))
      · intro (c14 : r107 = (-1))
        show post (some (0, 0, (-1), (-1), (-1))) M101
        rcases i13 with ⟨-, e⟩ | ⟨e, -, -⟩
        · exact k _ _ _ _ ⟨_, _, _, _, i1, Or.inr ⟨by omega, Or.inl ⟨e, rfl⟩⟩⟩ (fun q j h1 h2 => i3 q j (by omega))
        · exfalso
          omega
    · intro (c12 : ¬ r102 = (-4))
      show post (some (0, 0, (-4), 0, r102)) M101
      exact k _ _ _ _ ⟨_, _, _, _, i1, Or.inl ⟨by omega, rfl⟩⟩ (fun q j h1 h2 => i3 q j (by omega))
theorem cx_101_55 {A : Nat → Nat} {h0 : g_H} {d : Nat} {M : xa_M} {post : Option xa_V → xa_M → Prop} {l1 u1 l2 u2 l3 u3 x1 x2 x3 : Int} {F : Int → Int} {N : xa_M} (hT : tk_M N) (hR : tk_R M N) (hB : tk_B 55 M N) (hFF : 1 ≤ x1 ∧ x1 ≤ 9 → tk_Y N x1 F) (k : ∀ (lo hi r : Int) (M1 : xa_M), tf_101 N x1 x2 x3 r → (∀ (q : Nat) (j : Int), ¬ (15 ≤ q ∧ q ≤ 29) → ¬ (q = 48 ∨ q = 49) → M1 q j = M q j) → post (some (0, 0, lo, hi, r)) M1) : xa_C (xl_I true) A h0 (d + 7) 101 [(2, 0, 0, 0, 0), (0, 0, l1, u1, x1), (0, 0, l2, u2, x2), (0, 0, l3, u3, x3)] M post := by
  refine xa_C_arg [(2, 0, 0, 0, 0), (0, 0, (-2147483648), 2147483647, x1), (0, 0, (-2147483648), 2147483647, x2), (0, 0, (-2147483648), 2147483647, x3)] (xa_svR (xa_svI (fun _ _ _ _ => by omega) (xa_svI (fun _ _ _ _ => by omega) (xa_svI (fun _ _ _ _ => by omega) xa_sv0)))) ?_
  refine xa_meth (Q0 := (6, 1, false, 0, 0, 11)) (by decide +kernel) ⟨rfl, rfl⟩ (full := s_c_101) rfl rfl ?_
  intro hM hv Q hgo
  refine hgo.1 33 [] 0 _ _ _ ?_
  show xa_C (xl_I _) A h0 _ 86 [(2, 0, 0, 0, 0), (0, 0, (-2147483648), 2147483647, x1), (0, 0, (-2147483648), 2147483647, x2)] M _
  refine cx_86_55 hT hR hB hFF ?_
  intro r102 M101 (i1 : tk_S N x1 x2 r102 (M101 15 10) (M101 21) (M101 22)) (i2 : r102 = 0 → tk_A N x2 M101) (i3 : ∀ q j, ¬ (15 ≤ q ∧ q ≤ 24) → M101 q j = M q j)
  have hS := i1
  refine And.intro ?_ ?_
  · intro (c4 : r102 = 0)
    show xa_C (xl_I _) A h0 _ 102 [(2, 15, 0, 0, 0), (0, 0, (-2147483648), 2147483647, x3)] M101 _
    refine cx_102t (by have q := tk_Sl hT hS; omega) ?_
    intro r103 (i5 : (r103 = -1 ∧ ∀ i, 0 ≤ i → i < M101 15 10 → ¬ M101 21 i = x3) ∨ (0 ≤ r103 ∧ r103 < M101 15 10 ∧ M101 21 r103 = x3))
    refine And.intro ?_ ?_
    · intro (c6 : ¬ r103 = (-1))
      refine And.intro ?_ ?_
      · intro (c7 : r102 = 0)
        show xa_C (xl_I _) A h0 _ 103 [(2, 15, 0, 0, 0)] M101 _
        have er : r102 = 0 := by omega
        have hS0 := hS
        rw [er] at hS0
        obtain ⟨z1, z2, z3, z4⟩ := tk_S_L hS0
        have hZ : tk_Z N x1 x2 M101 := ⟨z1, z3, z4, i2 er⟩
        refine cx_103t hT hZ ?_
        intro r104 M105 (i8 : (r104 = 0 ∧ fs_c (tk_F N (M101 15 10) (M101 21) (M101 22) x2) (tk_pr N (M101 15 10) (M101 21)).toNat = 0) ∨ (r104 = 1 ∧ 1 ≤ fs_c (tk_F N (M101 15 10) (M101 21) (M101 22) x2) (tk_pr N (M101 15 10) (M101 21)).toNat)) (i9 : ∀ (q : Nat) (j : Int), ¬ (25 ≤ q ∧ q ≤ 29) → ¬ (q = 15 ∧ j = 13) → M105 q j = M101 q j)
        refine And.intro ?_ ?_
        · intro (c10 : r104 = 0)
          show post (some (0, 0, (-2), (-2), (-2))) M105
          rcases i5 with ⟨e, -⟩ | ⟨e1, e2, e3⟩
          · exfalso
            omega
          · exact k _ _ _ _ ⟨_, _, _, _, i1, Or.inr ⟨by omega, Or.inr ⟨⟨_, e1, e2, e3⟩, Or.inr ⟨by omega, Or.inl ⟨by omega, rfl⟩⟩⟩⟩⟩ (fun q j h1 h2 => (i9 q j (by omega) (by omega)).trans (i3 q j (by omega)))
        · intro (c10 : ¬ r104 = 0)
          show xa_C (xl_I _) A h0 _ 104 [(2, 15, 0, 0, 0), (0, 0, (-1), 13, r103), (2, 48, 0, 0, 0)] M105 _
          have pl : 0 ≤ r103 ∧ r103 < M101 15 10 := by
            rcases i5 with ⟨e, -⟩ | ⟨e1, e2, -⟩
            · omega
            · exact ⟨e1, e2⟩
          obtain ⟨zl1, -, zl2, -⟩ := tk_Zl hT hZ
          have zl3 := (zl2 r103 pl.1 pl.2).1
          have f23 := i9 23 r103 (by omega) (by omega)
          have f24 := i9 24 r103 (by omega) (by omega)
          refine cx_104t (by omega) (by omega) (by omega) ?_
          intro M106 (i11 : ∀ (q : Nat) (j : Int), ¬ (q = 48 ∨ q = 49) → M106 q j = M105 q j)
          show post (some (0, 0, 0, 0, 0)) M106
          rcases i5 with ⟨e, -⟩ | ⟨e1, e2, e3⟩
          · exfalso
            omega
          · exact k _ _ _ _ ⟨_, _, _, _, i1, Or.inr ⟨by omega, Or.inr ⟨⟨_, e1, e2, e3⟩, Or.inr ⟨by omega, Or.inr ⟨by omega, rfl⟩⟩⟩⟩⟩ (fun q j h1 h2 => (i11 q j h2).trans ((i9 q j (by omega) (by omega)).trans (i3 q j (by omega))))
      · intro (c7 : ¬ r102 = 0)
        exfalso
        omega
    · intro (c6 : r103 = (-1))
      show post (some (0, 0, (-1), (-1), (-1))) M101
      rcases i5 with ⟨-, e⟩ | ⟨e, -, -⟩
      · exact k _ _ _ _ ⟨_, _, _, _, i1, Or.inr ⟨by omega, Or.inl ⟨e, rfl⟩⟩⟩ (fun q j h1 h2 => i3 q j (by omega))
      · exfalso
        omega
  · intro (c4 : ¬ r102 = 0)
    refine And.intro ?_ ?_
    · intro (c12 : r102 = (-4))
      show xa_C (xl_I _) A h0 _ 102 [(2, 15, 0, 0, 0), (0, 0, (-2147483648), 2147483647, x3)] M101 _
      refine cx_102t (by have q := tk_Sl hT hS; omega) ?_
      intro r107 (i13 : (r107 = -1 ∧ ∀ i, 0 ≤ i → i < M101 15 10 → ¬ M101 21 i = x3) ∨ (0 ≤ r107 ∧ r107 < M101 15 10 ∧ M101 21 r107 = x3))
      refine And.intro ?_ ?_
      · intro (c14 : ¬ r107 = (-1))
        refine And.intro ?_ ?_
        · intro (c15 : r102 = 0)
          exfalso
          omega
        · intro (c15 : ¬ r102 = 0)
          show post (some (0, 0, (-4), 0, r102)) M101
          rcases i13 with ⟨e, -⟩ | ⟨e1, e2, e3⟩
          · exfalso
            omega
          · exact k _ _ _ _ ⟨_, _, _, _, i1, Or.inr ⟨by omega, Or.inr ⟨⟨_, e1, e2, e3⟩, Or.inl ⟨by omega, by omega⟩⟩⟩⟩ (fun q j h1 h2 => i3 q j (by omega))
      · intro (c14 : r107 = (-1))
        show post (some (0, 0, (-1), (-1), (-1))) M101
        rcases i13 with ⟨-, e⟩ | ⟨e, -, -⟩
        · exact k _ _ _ _ ⟨_, _, _, _, i1, Or.inr ⟨by omega, Or.inl ⟨e, rfl⟩⟩⟩ (fun q j h1 h2 => i3 q j (by omega))
        · exfalso
          omega
    · intro (c12 : ¬ r102 = (-4))
      show post (some (0, 0, (-4), 0, r102)) M101
      exact k _ _ _ _ ⟨_, _, _, _, i1, Or.inl ⟨by omega, rfl⟩⟩ (fun q j h1 h2 => i3 q j (by omega))
/-- isFitting, by the tuple's place -/
theorem fr_isG {A : Nat → Nat} {h0 : g_H} {d : Nat} {M M1 : xa_M} {post : Option xa_V → xa_M → Prop} {l u p y : Int} (hK : fr_K M M1) (hI : xm_Inv M1) (hW : xm_W M1 y) (hp0 : 0 ≤ p) (hp1 : p < M1 60 11) (k : ∀ (r : Int) (M2 : xa_M), (r = 0 ∨ r = 1) → (r = 1 ↔ fr_F M p (fr_r M M1)) → xm_cor M1 M2 → M2 60 20 = M1 60 20 → xm_W M2 y → xm_rk M2 (M2 60 32).toNat = xm_rk M1 (M1 60 32).toNat → fr_K M M2 → fr_r M M2 = fr_r M M1 → (∀ q j, ¬ q = 85 → ¬ q = 86 → M2 q j = M1 q j) → post (some (0, 0, 0, 1, r)) M2) : xa_C xm_I A h0 (d + 3) 242 [(2, 60, 0, 0, 0), (0, 0, l, u, p)] M1 post :=
  ct_isFitF hI hW.1 hW.2.1 hp0 hp1 (fun r M2 hr he h => by
    have h86 : xm_86 M1 M2 := fun q j hq => h q j hq.1 hq.2.1
    refine k r M2 hr (he.trans (fr_fit hK hW.2.1)) (fun q j hs => h q j (fun e => hs (by subst e; exact Or.inl (by decide))) (fun e => hs (by subst e; exact Or.inl (by decide)))) (h 60 20 (by decide) (by decide)) (xm_86_W h86 hW).1 (xm_86_W h86 hW).2 (fun q j h1 h2 => (h q j (by omega) (by omega)).trans (hK q j h1 h2)) ?_ (fun q j a b => h q j a b)
    unfold fr_r
    rw [show M2 84 = M1 84 from funext (fun j => h 84 j (by decide) (by decide))])
/-- the next tuple, by its place -/
theorem fr_nextG {A : Nat → Nat} {h0 : g_H} {d : Nat} {M M1 : xa_M} {post : Option xa_V → xa_M → Prop} {y : Int} (hK : fr_K M M1) (hW : xm_W M1 y) (k : ∀ (r : Int) (M2 : xa_M), (r = 0 ∨ r = 1) → xm_cor M1 M2 → M2 60 20 = M1 60 20 → (∀ z, z ≤ y + 1 → r = 1 → xm_W M2 z) → (r = 1 → xm_rk M2 (M2 60 32).toNat < xm_rk M1 (M1 60 32).toNat) → fr_K M M2 → (r = 1 → fr_r M M2 = fr_r M M1 + 1) → (r = 0 → fr_r M M1 + 1 = fs_pr (fr_L M) (fr_H M) (M 60 32).toNat) → xm_84 M1 M2 → post (some (0, 0, 0, 1, r)) M2) : xa_C xm_I A h0 (d + 1) 243 [(2, 60, 0, 0, 0)] M1 post := by
  obtain ⟨eL, eH, -, e32, -, -⟩ := fr_L_k hK
  refine ct_nextWayF hW.2.1 (fun r M2 hr h84 hF hn hl => ?_)
  rw [eL, eH, e32] at hn hl
  have e32' := h84 60 32 (by decide)
  have e0 := h84 60 0 (by decide)
  have hK2 : fr_K M M2 := fun q j h1 h2 => (h84 q j (by omega)).trans (hK q j h1 h2)
  -- xm_rk falls as fs_rk grows
  have s1 := xm_rks (M := M1) (M1 60 32).toNat
  have s2 := xm_rks (M := M2) (M2 60 32).toNat
  obtain ⟨eL2, eH2, -, e322, -, -⟩ := fr_L_k hK2
  rw [eL, eH] at s1
  rw [eL2, eH2] at s2
  rw [e32] at s1
  rw [e322] at s2
  have hlt : r = 1 → xm_rk M2 (M2 60 32).toNat < xm_rk M1 (M1 60 32).toNat := fun h1 => by
    have := hn h1
    rw [e32, e322]
    omega
  refine k r M2 hr (xm_84_c h84) (h84 60 20 (by decide)) (fun z hz h1 => ⟨fun i i0 i1 => ?_, hF, ?_, ?_⟩) hlt hK2 hn hl h84
  · rw [e32'] at i1
    rw [e0, h84 80 i (by decide)]
    exact hW.1 i i0 i1
  · rw [e32', xm_pr_84 h84]
    exact hW.2.2.1
  · have := hlt h1
    have := hW.2.2.2
    omega
theorem fm_firstG {A : Nat → Nat} {h0 : g_H} {d : Nat} {M : xa_M} {post : Option xa_V → xa_M → Prop} (hI : xm_Inv M) (hY : xm_Y M) (k : ∀ (M1 : xa_M), xm_cor M M1 → M1 60 20 = M 60 20 → xm_W M1 0 → fr_K M M1 → fr_r M M1 = 0 → xm_84 M M1 → post none M1) : xa_C xm_I A h0 (d + 1) 241 [(2, 60, 0, 0, 0)] M post :=
  xa_C_asm (fun hM _ => ct_firstWay (fun M1 h84 ht => by
    have hw := hY.1
    have hp := hY.2
    have e32 := h84 60 32 (by decide)
    have e0 := h84 60 0 (by decide)
    have b32 := xm_f32 hM
    have hF : xm_fit M1 := fun i i0 i1 => by
      rw [e32] at i1
      rw [h84 80 i (by decide), h84 61 _ (by decide), h84 62 _ (by decide), ht i i0 i1]
      have := xm_way_sp hM hI hw i i0 i1
      omega
    have hb := xm_rkb hF (M1 60 32).toNat (by omega)
    have hp1 : xm_pr M1 (M1 60 32).toNat ≤ 200000 := by
      rw [e32, xm_pr_84 h84]
      exact hp
    refine k M1 (xm_84_c h84) (h84 60 20 (by decide)) ⟨fun i i0 i1 => ?_, hF, hp1, by omega⟩ (fun q j h1 h2 => h84 q j (by omega)) (fs_first _ (fun i i0 i1 => ht i i0 (by omega))) h84
    rw [e32] at i1
    rw [e0, h84 80 i (by decide)]
    exact hw i i0 i1))
theorem ct_countFitsF {A : Nat → Nat} {h0 : g_H} {d : Nat} {M : xa_M} {post : Option xa_V → xa_M → Prop} {l1 u1 : Int} {x1 : Int} (hI : xm_Inv M) (hY : xm_Y M) (p0 : 0 ≤ x1) (p1 : x1 < M 60 11) (k : ∀ (M1 : xa_M), xm_cor M M1 → (∃ Mr, fr_K M Mr ∧ M1 60 39 = fs_c (fr_F Mr x1) (fs_pr (fr_L Mr) (fr_H Mr) (Mr 60 32).toNat).toNat) → post none M1) : xa_C xm_I A h0 (d + 4) 246 [(2, 60, 0, 0, 0), (0, 0, l1, u1, x1)] M post := by
  refine xa_C_arg [(2, 60, 0, 0, 0), (0, 0, (-2147483648), 2147483647, x1)] (xa_svR (xa_svI (fun _ _ _ _ => by omega) xa_sv0)) ?_
  refine xa_meth (Q0 := (3, 0, false, 0, 0, 12)) (by decide +kernel) ⟨rfl, rfl⟩ (full := s_c_246) rfl rfl ?_
  intro hM hv Q hgo
  have loop1 : ∀ (Mr : xa_M), fr_K M Mr → ∀ (n : Nat) (M1 : xa_M), xm_cor M M1 → xm_W M1 0 → fr_K Mr M1 → M1 60 39 = fs_c (fr_F Mr x1) (fr_r Mr M1).toNat → fs_pr (fr_L Mr) (fr_H Mr) (Mr 60 32).toNat ≤ 200000 → xm_rk M1 (M1 60 32).toNat < (n : Int) → Q 33 [(1, (0, 0, (-2147483648), 2147483647, x1)), (0, (2, 60, 0, 0, 0))] [] M1 := by
    intro Mr hKr n
    induction n with
    | zero => intro M1 hc hW hK hx hp hms; exact absurd hms (by have := xm_W_rk hW; omega)
    | succ n ih1 =>
      intro M1 hc hW hK hx hp hms1
      refine hgo.2.2 _ _ _ _ (fun hM1 _ => ?_)
      have e11 := xm_corf hc 11 (by omega)
      have b32 := xm_f32 hM1
      have hrk := (xm_rkb hW.2.1 (M1 60 32).toNat (by omega)).1
      have hWs := hW.2.2.2
      obtain ⟨e, he⟩ : ∃ e, e = xm_rk M1 (M1 60 32).toNat := ⟨_, rfl⟩
      have loop2 : ∀ (n : Nat) (x2 : Int) (M1 : xa_M), 0 ≤ x2 ∧ x2 ≤ 14 → xm_cor M M1 → xm_W M1 0 → xm_rk M1 (M1 60 32).toNat = e → fr_K Mr M1 → fr_F Mr x1 (fr_r Mr M1) → M1 60 39 = fs_c (fr_F Mr x1) (fr_r Mr M1).toNat + 1 → 14 - x2 < (n : Int) → Q 56 [(2, (0, 0, 0, 14, x2)), (1, (0, 0, (-2147483648), 2147483647, x1)), (0, (2, 60, 0, 0, 0))] [] M1 := by
        intro n
        induction n with
        | zero => intro x2 M1 b2 hc hW hrke hK hf hx hms; clear hf hx; omega
        | succ n ih2 =>
          intro x2 M1 b2 hc hW hrke hK hf hx hms2
          refine hgo.2.2 _ _ _ _ (fun hM1 _ => ?_)
          have e11 := xm_corf hc 11 (by omega)
          have b32 := xm_f32 hM1
          have hrk := (xm_rkb hW.2.1 (M1 60 32).toNat (by omega)).1
          have hWs := hW.2.2.2
          have hr0 := fr_r0 hK hW.2.1
          have hn1 : M1 60 39 = fs_c (fr_F Mr x1) (fr_r Mr M1 + 1).toNat := by rw [fa_c1 hr0.1 hf]; exact hx
          have t84 : x2 < M1 60 32 → 0 ≤ M1 84 x2 ∧ M1 84 x2 ≤ 400 := fun h => xm_t84 hM1 x2 (by omega) (by omega)
          refine hgo.1 26 [2, 33, 56] 56 _ _ _ ?_
          refine And.intro ?_ ?_
          · intro (c1 : (M1 60 32) ≤ x2)
            show xa_C xm_I A h0 _ 243 [(2, 60, 0, 0, 0)] M1 _
            refine xa_C_mok (fr_nextG hK hW (fun v2 M2 z2 hc2 e2 wN2 rk2 hK2 n2 l2 g2 hM2 => ?_))
            refine And.intro ?_ ?_
            · intro (c3 : ¬ v2 = 0)
              show Q 33 [(2, (0, 0, 0, 14, x2)), (1, (0, 0, (-2147483648), 2147483647, x1)), (0, (2, 60, 0, 0, 0))] [] M2
              refine hgo.2.1 33 _ [(1, (0, 0, (-2147483648), 2147483647, x1)), (0, (2, 60, 0, 0, 0))] _ _ (xa_subI rfl rfl (fun _ _ _ _ => by omega) (xa_subR rfl xa_sub0)) ?_
              exact ih1 M2 (xm_cor_t hc hc2) (wN2 _ (by omega) (by omega)) hK2 (by rw [n2 (by omega), g2 60 39 (by decide)]; exact hn1) hp (by omega)
            · intro (c3 : v2 = 0)
              show post none M2
              exact k _ (xm_cor_t hc hc2) ⟨Mr, hKr, by rw [g2 60 39 (by decide), ← l2 (by omega)]; exact hn1⟩
          · intro (c1 : x2 < (M1 60 32))
            refine And.intro (show 0 ≤ x2 ∧ x2 < 14 by omega) ?_
            refine And.intro (show 0 ≤ ((401 * x2) + (M1 84 x2)) ∧ ((401 * x2) + (M1 84 x2)) < 5614 by omega) ?_
            refine And.intro (show 0 ≤ ((401 * x2) + (M1 84 x2)) ∧ ((401 * x2) + (M1 84 x2)) < 5614 by omega) ?_
            show Q 56 [(2, (0, 0, 1, 15, x2 + 1)), (1, (0, 0, (-2147483648), 2147483647, x1)), (0, (2, 60, 0, 0, 0))] [] (xa_up M1 87 ((401 * x2) + (M1 84 x2)) (xa_w32 ((M1 87 ((401 * x2) + (M1 84 x2))) + 1)))
            refine hgo.2.1 56 _ [(2, (0, 0, 0, 14, x2 + 1)), (1, (0, 0, (-2147483648), 2147483647, x1)), (0, (2, 60, 0, 0, 0))] _ _ (xa_subI rfl rfl (fun _ _ _ _ => by omega) (xa_subI rfl rfl (fun _ _ _ _ => by omega) (xa_subR rfl xa_sub0))) ?_
            have e84 : (xa_up M1 87 ((401 * x2) + (M1 84 x2)) (xa_w32 ((M1 87 ((401 * x2) + (M1 84 x2))) + 1))) 84 = M1 84 := funext (fun j => xa_up_ne (by omega))
            have er2 : fr_r Mr (xa_up M1 87 ((401 * x2) + (M1 84 x2)) (xa_w32 ((M1 87 ((401 * x2) + (M1 84 x2))) + 1))) = fr_r Mr M1 := by
              unfold fr_r
              rw [e84]
            exact ih2 (x2 + 1) (xa_up M1 87 ((401 * x2) + (M1 84 x2)) (xa_w32 ((M1 87 ((401 * x2) + (M1 84 x2))) + 1))) (by omega) (xm_cor_a rfl hc) (xm_86_W (xm_86_s (by omega)) hW).1 ((xm_86_W (xm_86_s (by omega)) hW).2.trans hrke) (fun q j h1 h2 => (xa_up_ne (by omega)).trans (hK q j h1 h2)) (by rw [er2]; exact hf) (by rw [er2]; exact (xa_up_ne (by omega)).trans hx) (by omega)
      refine hgo.1 17 [2, 33, 56] 33 _ _ _ ?_
      show xa_C xm_I A h0 _ 242 [(2, 60, 0, 0, 0), (0, 0, (-2147483648), 2147483647, x1)] M1 _
      refine xa_C_mok (fr_isG hK (xm_Inv_cor hc hI) hW (by omega) (by omega) (fun v1 M1 z1 q1 hc1 e1 wF1 rk1 hK er1 g1 hM1 => ?_))
      rw [← er1] at q1 hx
      rw [← g1 60 39 (by decide) (by decide)] at hx
      have hr0 := fr_r0 hK wF1.2.1
      have hcb := fs_cb (F := fr_F Mr x1) (fr_r Mr M1).toNat
      refine And.intro ?_ ?_
      · intro (c2 : ¬ v1 = 0)
        show Q 56 [(2, (0, 0, 0, 0, 0)), (1, (0, 0, (-2147483648), 2147483647, x1)), (0, (2, 60, 0, 0, 0))] [] (xa_up M1 60 39 (xa_w32 ((M1 60 39) + 1)))
        refine hgo.2.1 56 _ [(2, (0, 0, 0, 14, 0)), (1, (0, 0, (-2147483648), 2147483647, x1)), (0, (2, 60, 0, 0, 0))] _ _ (xa_subI rfl rfl (fun _ _ _ _ => by omega) (xa_subI rfl rfl (fun _ _ _ _ => by omega) (xa_subR rfl xa_sub0))) ?_
        have e84 : (xa_up M1 60 39 (xa_w32 ((M1 60 39) + 1))) 84 = M1 84 := funext (fun j => xa_up_ne (by omega))
        have er2 : fr_r Mr (xa_up M1 60 39 (xa_w32 ((M1 60 39) + 1))) = fr_r Mr M1 := by
          unfold fr_r
          rw [e84]
        have hw := xa_w32_id (n := M1 60 39 + 1) (by omega) (by omega)
        exact loop2 15 0 (xa_up M1 60 39 (xa_w32 ((M1 60 39) + 1))) (by omega) (xm_cor_f (by omega) (xm_cor_t hc hc1)) (xm_86_W (xm_86_s (by omega)) wF1).1 ((xm_86_W (xm_86_s (by omega)) wF1).2.trans (rk1.trans he.symm)) (fun q j h1 h2 => (xa_up_ne (by omega)).trans (hK q j h1 h2)) (by rw [er2]; exact q1.mp (by omega)) (by rw [er2, xa_up_eq, hw, hx]) (by omega)
      · intro (c2 : v1 = 0)
        have hn0 : M1 60 39 = fs_c (fr_F Mr x1) (fr_r Mr M1 + 1).toNat := by rw [fa_c0 hr0.1 (fun h => by have := q1.mpr h; omega)]; exact hx
        show xa_C xm_I A h0 _ 243 [(2, 60, 0, 0, 0)] M1 _
        refine xa_C_mok (fr_nextG hK wF1 (fun v3 M3 z3 hc3 e3 wN3 rk3 hK3 n3 l3 g3 hM3 => ?_))
        refine And.intro ?_ ?_
        · intro (c4 : ¬ v3 = 0)
          show Q 33 [(1, (0, 0, (-2147483648), 2147483647, x1)), (0, (2, 60, 0, 0, 0))] [] M3
          refine hgo.2.1 33 _ [(1, (0, 0, (-2147483648), 2147483647, x1)), (0, (2, 60, 0, 0, 0))] _ _ (xa_subI rfl rfl (fun _ _ _ _ => by omega) (xa_subR rfl xa_sub0)) ?_
          exact ih1 M3 (xm_cor_t (xm_cor_t hc hc1) hc3) (wN3 _ (by omega) (by omega)) hK3 (by rw [n3 (by omega), g3 60 39 (by decide)]; exact hn0) hp (by omega)
        · intro (c4 : v3 = 0)
          show post none M3
          exact k _ (xm_cor_t (xm_cor_t hc hc1) hc3) ⟨Mr, hKr, by rw [g3 60 39 (by decide), ← l3 (by omega)]; exact hn0⟩
  have loop0 : ∀ (n : Nat) (x2 : Int) (M1 : xa_M), 0 ≤ x2 ∧ x2 ≤ 5614 → xm_cor M M1 → xm_Y M1 → fr_K M M1 → 5614 - x2 < (n : Int) → Q 2 [(2, (0, 0, 0, 5614, x2)), (1, (0, 0, (-2147483648), 2147483647, x1)), (0, (2, 60, 0, 0, 0))] [] M1 := by
    intro n
    induction n with
    | zero => intro x2 M1 b2 hc hY hK0 hms; omega
    | succ n ih0 =>
      intro x2 M1 b2 hc hY hK0 hms0
      have e11 := xm_corf hc 11 (by omega)
      refine hgo.1 17 [2, 33, 56] 2 _ _ _ ?_
      refine And.intro ?_ ?_
      · intro (c1 : 5614 ≤ x2)
        show xa_C xm_I A h0 _ 241 [(2, 60, 0, 0, 0)] (xa_up M1 60 39 0) _
        refine xa_C_mok (fm_firstG (xm_Inv_cor (xm_cor_f (by omega) hc) hI) (xm_86_Y (xm_86_s (by omega)) hY) (fun M2 hc2 e2 wA2 hK2 hr2 g2 hM2 => ?_))
        have w2 := wA2.2.2.2
        show Q 33 [(2, (0, 0, 0, 5614, x2)), (1, (0, 0, (-2147483648), 2147483647, x1)), (0, (2, 60, 0, 0, 0))] [] M2
        refine hgo.2.1 33 _ [(1, (0, 0, (-2147483648), 2147483647, x1)), (0, (2, 60, 0, 0, 0))] _ _ (xa_subI rfl rfl (fun _ _ _ _ => by omega) (xa_subR rfl xa_sub0)) ?_
        have hp2 := hY.2
        rw [fr_pr] at hp2
        exact loop1 (xa_up M1 60 39 0) (fun q j h1 h2 => (xa_up_ne (by omega)).trans (hK0 q j h1 h2)) 200000 M2 (xm_cor_t (xm_cor_f (by omega) hc) hc2) wA2 hK2 (by rw [hr2, g2 60 39 (by decide)]; exact xa_up_eq) hp2 (by omega)
      · intro (c1 : x2 < 5614)
        refine And.intro (show 0 ≤ x2 ∧ x2 < 5614 by omega) ?_
        show Q 2 [(2, (0, 0, 1, 5615, x2 + 1)), (1, (0, 0, (-2147483648), 2147483647, x1)), (0, (2, 60, 0, 0, 0))] [] (xa_up M1 87 x2 0)
        refine hgo.2.1 2 _ [(2, (0, 0, 0, 5614, x2 + 1)), (1, (0, 0, (-2147483648), 2147483647, x1)), (0, (2, 60, 0, 0, 0))] _ _ (xa_subI rfl rfl (fun _ _ _ _ => by omega) (xa_subI rfl rfl (fun _ _ _ _ => by omega) (xa_subR rfl xa_sub0))) ?_
        exact ih0 (x2 + 1) (xa_up M1 87 x2 0) (by omega) (xm_cor_a rfl hc) (xm_86_Y (xm_86_s (by omega)) hY) (fun q j h1 h2 => (xa_up_ne (by omega)).trans (hK0 q j h1 h2)) (by omega)
  refine hgo.1 7 [2, 33, 56] 0 _ _ _ ?_
  show Q 2 [(2, (0, 0, 0, 0, 0)), (0, (2, 60, 0, 0, 0)), (1, (0, 0, (-2147483648), 2147483647, x1))] [] M
  refine hgo.2.1 2 _ [(2, (0, 0, 0, 5614, 0)), (1, (0, 0, (-2147483648), 2147483647, x1)), (0, (2, 60, 0, 0, 0))] _ _ (xa_subI rfl rfl (fun _ _ _ _ => by omega) (xa_subI rfl rfl (fun _ _ _ _ => by omega) (xa_subR rfl xa_sub0))) ?_
  exact loop0 5615 0 M (by omega) xm_cor_r hY fr_Kr (by omega)

theorem ms_sureF {A : Nat → Nat} {h0 : g_H} {d : Nat} {M : xa_M} {post : Option xa_V → xa_M → Prop} {l1 u1 l2 u2 l3 u3 : Int} {a x2 x3 : Int} (hI : xm_Inv M) (k : ∀ (o : Option xa_V) (M1 : xa_M), (∃ lo hi n, o = some (0, 0, lo, hi, n) ∧ tf_101 M a x2 x3 n) → xm_cor M M1 → post o M1) : xa_C xm_I A h0 (d + 5) 245 [(2, 60, 0, 0, 0), (0, 0, l1, u1, a), (0, 0, l2, u2, x2), (0, 0, l3, u3, x3)] M post := by
  refine xa_C_arg [(2, 60, 0, 0, 0), (0, 0, (-2147483648), 2147483647, a), (0, 0, (-2147483648), 2147483647, x2), (0, 0, (-2147483648), 2147483647, x3)] (xa_svR (xa_svI (fun _ _ _ _ => by omega) (xa_svI (fun _ _ _ _ => by omega) (xa_svI (fun _ _ _ _ => by omega) xa_sv0)))) ?_
  refine xa_meth (Q0 := (10, 1, false, 0, 0, 12)) (by decide +kernel) ⟨rfl, rfl⟩ (full := s_c_245) rfl rfl ?_
  intro hM hv Q hgo
  have hTM := tk_M_of hM hI
  have loop1 : ∀ (n : Nat) (x9 x8 x7 x6 x5 : Int) (M1 : xa_M), 0 ≤ x9 ∧ x9 ≤ 401 → 0 ≤ x5 ∧ x5 ≤ 13 → xm_cor M M1 → tf_101 M a x2 x3 0 → 401 - x9 < (n : Int) → Q 113 [(9, (0, 0, 0, 401, x9)), (8, (0, 0, (-2147483648), 2147483647, x8)), (7, (0, 0, (-2147483648), 2147483647, x7)), (6, (0, 0, (-2147483648), 2147483647, x6)), (5, (0, 0, 0, 13, x5)), (0, (2, 60, 0, 0, 0))] [] M1 := by
    intro n
    induction n with
    | zero => intro x9 x8 x7 x6 x5 M1 b9 b5 hc hS0 hms; omega
    | succ n ih1 =>
      intro x9 x8 x7 x6 x5 M1 b9 b5 hc hS0 hms1
      refine hgo.1 28 [35, 113] 113 _ _ _ ?_
      refine And.intro ?_ ?_
      · intro (c1 : 400 < x9)
        show xa_C xm_I A h0 _ 231 [(2, 60, 0, 0, 0), (1, 0, (-2147483648), 2147483647, x6)] (xa_up M1 60 20 0) _
        refine ct_tell (n := 0) (by first | rfl | (simp [xa_up]; done) | omega) (by omega) (by omega) ?_
        show xa_C xm_I A h0 _ 231 [(2, 60, 0, 0, 0), (1, 0, (-2147483648), 2147483647, x7)] (xa_up (xa_up (xa_up M1 60 20 0) 74 0 x6) 60 20 1) _
        refine ct_tell (n := 1) (by first | rfl | (simp [xa_up]; done) | omega) (by omega) (by omega) ?_
        show xa_C xm_I A h0 _ 231 [(2, 60, 0, 0, 0), (1, 0, (-2147483648), 2147483647, x8)] (xa_up (xa_up (xa_up (xa_up (xa_up M1 60 20 0) 74 0 x6) 60 20 1) 74 1 x7) 60 20 2) _
        refine ct_tell (n := 2) (by first | rfl | (simp [xa_up]; done) | omega) (by omega) (by omega) ?_
        show post (some (0, 0, 0, 0, 0)) (xa_up (xa_up (xa_up (xa_up (xa_up (xa_up (xa_up M1 60 20 0) 74 0 x6) 60 20 1) 74 1 x7) 60 20 2) 74 2 x8) 60 20 3)
        exact k _ _ ⟨_, _, _, rfl, hS0⟩ (xm_cor_f (by omega) (xm_cor_a rfl (xm_cor_f (by omega) (xm_cor_a rfl (xm_cor_f (by omega) (xm_cor_a rfl (xm_cor_f (by omega) hc)))))))
      · intro (c1 : x9 ≤ 400)
        refine And.intro (show 0 ≤ ((401 * x5) + x9) ∧ ((401 * x5) + x9) < 5614 by omega) ?_
        refine And.intro ?_ ?_
        · intro (c2 : ¬ (M1 87 ((401 * x5) + x9)) = 0)
          refine And.intro ?_ ?_
          · intro (c3 : ¬ x6 = (-1))
            show Q 113 [(9, (0, 0, 1, 402, x9 + 1)), (8, (0, 0, (-2147483648), 2147483647, xa_w32 (x8 + 1))), (7, (0, 0, 0, 401, x9)), (6, (0, 0, (-2147483648), 2147483647, x6)), (5, (0, 0, 0, 13, x5)), (0, (2, 60, 0, 0, 0))] [] M1
            refine hgo.2.1 113 _ [(9, (0, 0, 0, 401, x9 + 1)), (8, (0, 0, (-2147483648), 2147483647, xa_w32 (x8 + 1))), (7, (0, 0, (-2147483648), 2147483647, x9)), (6, (0, 0, (-2147483648), 2147483647, x6)), (5, (0, 0, 0, 13, x5)), (0, (2, 60, 0, 0, 0))] _ _ (xa_subI rfl rfl (fun _ _ _ _ => by omega) (xa_subI rfl rfl (fun _ _ _ _ => by omega) (xa_subI rfl rfl (fun _ _ _ _ => by omega) (xa_subI rfl rfl (fun _ _ _ _ => by omega) (xa_subI rfl rfl (fun _ _ _ _ => by omega) (xa_subR rfl xa_sub0)))))) ?_
            exact ih1 (x9 + 1) (xa_w32 (x8 + 1)) x9 x6 x5 M1 (by omega) (by omega) hc hS0 (by omega)
          · intro (c3 : x6 = (-1))
            show Q 113 [(9, (0, 0, 1, 402, x9 + 1)), (8, (0, 0, (-2147483648), 2147483647, xa_w32 (x8 + 1))), (7, (0, 0, 0, 401, x9)), (6, (0, 0, 0, 401, x9)), (5, (0, 0, 0, 13, x5)), (0, (2, 60, 0, 0, 0))] [] M1
            refine hgo.2.1 113 _ [(9, (0, 0, 0, 401, x9 + 1)), (8, (0, 0, (-2147483648), 2147483647, xa_w32 (x8 + 1))), (7, (0, 0, (-2147483648), 2147483647, x9)), (6, (0, 0, (-2147483648), 2147483647, x9)), (5, (0, 0, 0, 13, x5)), (0, (2, 60, 0, 0, 0))] _ _ (xa_subI rfl rfl (fun _ _ _ _ => by omega) (xa_subI rfl rfl (fun _ _ _ _ => by omega) (xa_subI rfl rfl (fun _ _ _ _ => by omega) (xa_subI rfl rfl (fun _ _ _ _ => by omega) (xa_subI rfl rfl (fun _ _ _ _ => by omega) (xa_subR rfl xa_sub0)))))) ?_
            exact ih1 (x9 + 1) (xa_w32 (x8 + 1)) x9 x9 x5 M1 (by omega) (by omega) hc hS0 (by omega)
        · intro (c2 : (M1 87 ((401 * x5) + x9)) = 0)
          show Q 113 [(9, (0, 0, 1, 402, x9 + 1)), (8, (0, 0, (-2147483648), 2147483647, x8)), (7, (0, 0, (-2147483648), 2147483647, x7)), (6, (0, 0, (-2147483648), 2147483647, x6)), (5, (0, 0, 0, 13, x5)), (0, (2, 60, 0, 0, 0))] [] M1
          refine hgo.2.1 113 _ [(9, (0, 0, 0, 401, x9 + 1)), (8, (0, 0, (-2147483648), 2147483647, x8)), (7, (0, 0, (-2147483648), 2147483647, x7)), (6, (0, 0, (-2147483648), 2147483647, x6)), (5, (0, 0, 0, 13, x5)), (0, (2, 60, 0, 0, 0))] _ _ (xa_subI rfl rfl (fun _ _ _ _ => by omega) (xa_subI rfl rfl (fun _ _ _ _ => by omega) (xa_subI rfl rfl (fun _ _ _ _ => by omega) (xa_subI rfl rfl (fun _ _ _ _ => by omega) (xa_subI rfl rfl (fun _ _ _ _ => by omega) (xa_subR rfl xa_sub0)))))) ?_
          exact ih1 (x9 + 1) x8 x7 x6 x5 M1 (by omega) (by omega) hc hS0 (by omega)
  have loop0 : ∀ (n : Nat) (x6 x5 x4 : Int) (M1 : xa_M), 0 ≤ x6 ∧ x6 ≤ 14 → (-1) ≤ x5 ∧ x5 ≤ 13 → (-4) ≤ x4 ∧ x4 ≤ 0 → xm_cor M M1 → (x4 = 0 ∨ x4 = -4) → tk_S M a x2 x4 (M1 60 32) (M1 80) (M1 81) → ((x5 = -1 ∧ ∀ i, 0 ≤ i → i < x6 → ¬ M1 80 i = x3) ∨ (¬ x5 = -1 ∧ ∃ i, 0 ≤ i ∧ i < x6 ∧ M1 80 i = x3)) → (¬ x5 = -1 → ∃ i, 0 ≤ i ∧ i < x6 ∧ M1 80 i = x3) → x6 ≤ M1 60 32 → (x4 = 0 → xm_Y M1 ∧ 0 ≤ x2 ∧ x2 < M1 60 11) → 14 - x6 < (n : Int) → Q 35 [(6, (0, 0, 0, 14, x6)), (5, (0, 0, (-1), 13, x5)), (4, (0, 0, (-4), 0, x4)), (3, (0, 0, (-2147483648), 2147483647, x3)), (2, (0, 0, (-2147483648), 2147483647, x2)), (0, (2, 60, 0, 0, 0))] [] M1 := by
    intro n
    induction n with
    | zero => intro x6 x5 x4 M1 b6 b5 b4 hc h04 hSr hpl hpl2 hle hv0 hms; clear hpl hpl2; omega
    | succ n ih0 =>
      intro x6 x5 x4 M1 b6 b5 b4 hc h04 hSr hpl hpl2 hle hv0 hms0
      refine hgo.2.2 _ _ _ _ (fun hM1 _ => ?_)
      have b32 := xm_f32 hM1
      refine hgo.1 28 [35, 113] 35 _ _ _ ?_
      refine And.intro ?_ ?_
      · intro (c1 : (M1 60 32) ≤ x6)
        refine And.intro ?_ ?_
        · intro (c2 : ¬ x5 = (-1))
          have hpx : ∃ i, 0 ≤ i ∧ i < M1 60 32 ∧ M1 80 i = x3 := by
            obtain ⟨i, h1, h2, h3⟩ := hpl2 c2
            exact ⟨i, h1, by omega, h3⟩
          refine And.intro ?_ ?_
          · intro (c3 : 0 ≤ x4)
            show xa_C xm_I A h0 _ 246 [(2, 60, 0, 0, 0), (0, 0, (-2147483648), 2147483647, x2)] M1 _
            refine xa_C_mok (ct_countFitsF (xm_Inv_cor hc hI) (hv0 (by omega)).1 (by have q := (hv0 (by omega)).2; omega) (by have q := (hv0 (by omega)).2; omega) (fun M4 hc4 hq4 hM4 => ?_))
            refine And.intro ?_ ?_
            · intro (c5 : ¬ (M4 60 39) = 0)
              show Q 113 [(9, (0, 0, 0, 0, 0)), (8, (0, 0, 0, 0, 0)), (7, (0, 0, (-1), (-1), (-1))), (6, (0, 0, (-1), (-1), (-1))), (5, (0, 0, (-1), 13, x5)), (4, (0, 0, (-4), 0, x4)), (3, (0, 0, (-2147483648), 2147483647, x3)), (2, (0, 0, (-2147483648), 2147483647, x2)), (0, (2, 60, 0, 0, 0))] [] M4
              refine hgo.2.1 113 _ [(9, (0, 0, 0, 401, 0)), (8, (0, 0, (-2147483648), 2147483647, 0)), (7, (0, 0, (-2147483648), 2147483647, (-1))), (6, (0, 0, (-2147483648), 2147483647, (-1))), (5, (0, 0, 0, 13, x5)), (0, (2, 60, 0, 0, 0))] _ _ (xa_subI rfl rfl (fun _ _ _ _ => by omega) (xa_subI rfl rfl (fun _ _ _ _ => by omega) (xa_subI rfl rfl (fun _ _ _ _ => by omega) (xa_subI rfl rfl (fun _ _ _ _ => by omega) (xa_subI rfl rfl (fun _ _ _ _ => by omega) (xa_subR rfl xa_sub0)))))) ?_
              have e0 : x4 = 0 := by omega
              obtain ⟨Mr, hKr, hq⟩ := hq4
              obtain ⟨eL, eH, e81, e32, e71, e70⟩ := fr_L_k hKr
              obtain ⟨eF, ep, -, -⟩ := fm_e hc (p := x2)
              have eFr : fr_F Mr x2 = fr_F M1 x2 := by
                unfold fr_F
                rw [eL, eH, e81, e32, e71, e70]
              rw [eFr, eL, eH, e32, eF, ep] at hq
              have hcb := fs_cb (F := tk_F M (M1 60 32) (M1 80) (M1 81) x2) (tk_pr M (M1 60 32) (M1 80)).toNat
              exact loop1 402 0 0 (-1) (-1) x5 M4 (by omega) (by omega) (xm_cor_t hc hc4) ⟨0, _, _, _, by rw [← e0]; exact hSr, Or.inr ⟨Or.inl rfl, Or.inr ⟨hpx, Or.inr ⟨rfl, Or.inr ⟨by omega, rfl⟩⟩⟩⟩⟩ (by omega)
            · intro (c5 : (M4 60 39) = 0)
              show post (some (0, 0, (-2), (-2), (-2))) M4
              have e0 : x4 = 0 := by omega
              obtain ⟨Mr, hKr, hq⟩ := hq4
              obtain ⟨eL, eH, e81, e32, e71, e70⟩ := fr_L_k hKr
              obtain ⟨eF, ep, -, -⟩ := fm_e hc (p := x2)
              have eFr : fr_F Mr x2 = fr_F M1 x2 := by
                unfold fr_F
                rw [eL, eH, e81, e32, e71, e70]
              rw [eFr, eL, eH, e32, eF, ep] at hq
              have hcb := fs_cb (F := tk_F M (M1 60 32) (M1 80) (M1 81) x2) (tk_pr M (M1 60 32) (M1 80)).toNat
              exact k _ _ ⟨_, _, _, rfl, 0, _, _, _, by rw [← e0]; exact hSr, Or.inr ⟨Or.inl rfl, Or.inr ⟨hpx, Or.inr ⟨rfl, Or.inl ⟨by omega, rfl⟩⟩⟩⟩⟩ (xm_cor_t hc hc4)
          · intro (c3 : x4 < 0)
            show post (some (0, 0, (-4), 0, x4)) M1
            exact k _ _ ⟨_, _, _, rfl, x4, _, _, _, hSr, Or.inr ⟨h04, Or.inr ⟨hpx, Or.inl ⟨by rcases h04 with e | e; exact absurd e (Int.ne_of_lt (by assumption)); exact e, by rcases h04 with e | e; exact absurd e (Int.ne_of_lt (by assumption)); exact e⟩⟩⟩⟩ hc
        · intro (c2 : x5 = (-1))
          show post (some (0, 0, (-1), (-1), (-1))) M1
          rcases hpl with ⟨-, h⟩ | h
          · exact k _ _ ⟨_, _, _, rfl, x4, _, _, _, hSr, Or.inr ⟨h04, Or.inl ⟨fun i i0 i1 => h i i0 (by omega), rfl⟩⟩⟩ hc
          · exact absurd c2 h.1
      · intro (c1 : x6 < (M1 60 32))
        refine And.intro (show 0 ≤ x6 ∧ x6 < 14 by omega) ?_
        refine And.intro ?_ ?_
        · intro (c6 : ¬ (M1 80 x6) = x3)
          show Q 35 [(6, (0, 0, 1, 15, x6 + 1)), (5, (0, 0, (-1), 13, x5)), (4, (0, 0, (-4), 0, x4)), (3, (0, 0, (-2147483648), 2147483647, x3)), (2, (0, 0, (-2147483648), 2147483647, x2)), (0, (2, 60, 0, 0, 0))] [] M1
          refine hgo.2.1 35 _ [(6, (0, 0, 0, 14, x6 + 1)), (5, (0, 0, (-1), 13, x5)), (4, (0, 0, (-4), 0, x4)), (3, (0, 0, (-2147483648), 2147483647, x3)), (2, (0, 0, (-2147483648), 2147483647, x2)), (0, (2, 60, 0, 0, 0))] _ _ (xa_subI rfl rfl (fun _ _ _ _ => by omega) (xa_subI rfl rfl (fun _ _ _ _ => by omega) (xa_subI rfl rfl (fun _ _ _ _ => by omega) (xa_subI rfl rfl (fun _ _ _ _ => by omega) (xa_subI rfl rfl (fun _ _ _ _ => by omega) (xa_subR rfl xa_sub0)))))) ?_
          exact ih0 (x6 + 1) x5 x4 M1 (by omega) (by omega) (by omega) hc h04 hSr (by
            rcases hpl with ⟨e, h⟩ | ⟨e, i, h1, h2, h3⟩
            · refine Or.inl ⟨e, fun i i0 i1 => ?_⟩
              by_cases q : i = x6
              · rw [q]
                exact c6
              · exact h i i0 (by omega)
            · exact Or.inr ⟨e, i, h1, by omega, h3⟩) (fun h => by
            obtain ⟨i, h1, h2, h3⟩ := hpl2 h
            exact ⟨i, h1, by omega, h3⟩) (by omega) hv0 (by omega)
        · intro (c6 : (M1 80 x6) = x3)
          show Q 35 [(6, (0, 0, 1, 15, x6 + 1)), (5, (0, 0, 0, 14, x6)), (4, (0, 0, (-4), 0, x4)), (3, (0, 0, (-2147483648), 2147483647, x3)), (2, (0, 0, (-2147483648), 2147483647, x2)), (0, (2, 60, 0, 0, 0))] [] M1
          refine hgo.2.1 35 _ [(6, (0, 0, 0, 14, x6 + 1)), (5, (0, 0, (-1), 13, x6)), (4, (0, 0, (-4), 0, x4)), (3, (0, 0, (-2147483648), 2147483647, x3)), (2, (0, 0, (-2147483648), 2147483647, x2)), (0, (2, 60, 0, 0, 0))] _ _ (xa_subI rfl rfl (fun _ _ _ _ => by omega) (xa_subI rfl rfl (fun _ _ _ _ => by omega) (xa_subI rfl rfl (fun _ _ _ _ => by omega) (xa_subI rfl rfl (fun _ _ _ _ => by omega) (xa_subI rfl rfl (fun _ _ _ _ => by omega) (xa_subR rfl xa_sub0)))))) ?_
          exact ih0 (x6 + 1) x6 x4 M1 (by omega) (by omega) (by omega) hc h04 hSr (Or.inr ⟨by omega, x6, b6.1, by omega, c6⟩) (fun _ => ⟨x6, b6.1, by omega, c6⟩) (by omega) hv0 (by omega)
  refine hgo.1 23 [35, 113] 0 _ _ _ ?_
  show xa_C xm_I A h0 _ 238 [(2, 60, 0, 0, 0), (0, 0, (-2147483648), 2147483647, a), (0, 0, (-2147483648), 2147483647, x2)] (xa_up M 60 21 0) _
  refine xa_C_mok (ct_readyF (xm_Inv_cor (xm_cor_f (by omega) xm_cor_r) hI) (fun v1 M1 z1 hc1 hr1 hq1 hM1 => ?_))
  have hS := rd_S hTM (xm_cor_f (by omega) xm_cor_r) hc1 hM1 hq1
  refine And.intro ?_ ?_
  · intro (c2 : v1 = (-1))
    show post (some (0, 0, (-4), 0, v1)) M1
    exact k _ _ ⟨_, _, _, rfl, v1, _, _, _, hS, Or.inl ⟨by omega, rfl⟩⟩ (xm_cor_t (xm_cor_f (by omega) xm_cor_r) hc1)
  · intro (c2 : ¬ v1 = (-1))
    refine And.intro ?_ ?_
    · intro (c3 : ¬ v1 = (-2))
      show Q 35 [(6, (0, 0, 0, 0, 0)), (5, (0, 0, (-1), (-1), (-1))), (4, (0, 0, (-4), 0, v1)), (0, (2, 60, 0, 0, 0)), (1, (0, 0, (-2147483648), 2147483647, a)), (2, (0, 0, (-2147483648), 2147483647, x2)), (3, (0, 0, (-2147483648), 2147483647, x3))] [] M1
      refine hgo.2.1 35 _ [(6, (0, 0, 0, 14, 0)), (5, (0, 0, (-1), 13, (-1))), (4, (0, 0, (-4), 0, v1)), (3, (0, 0, (-2147483648), 2147483647, x3)), (2, (0, 0, (-2147483648), 2147483647, x2)), (0, (2, 60, 0, 0, 0))] _ _ (xa_subI rfl rfl (fun _ _ _ _ => by omega) (xa_subI rfl rfl (fun _ _ _ _ => by omega) (xa_subI rfl rfl (fun _ _ _ _ => by omega) (xa_subI rfl rfl (fun _ _ _ _ => by omega) (xa_subI rfl rfl (fun _ _ _ _ => by omega) (xa_subR rfl xa_sub0)))))) ?_
      exact loop0 15 0 (-1) v1 M1 (by omega) (by omega) (by omega) (xm_cor_t (xm_cor_f (by omega) xm_cor_r) hc1) (by omega) hS (Or.inl ⟨rfl, fun i i0 i1 => by omega⟩) (fun h => absurd rfl h) (xm_f32 hM1).1 (fun h => ⟨⟨(hr1 h).1, (hr1 h).2.1⟩, by have q := (hr1 h).2.2; have e := xm_corf (xm_cor_t (xm_cor_f (by omega) xm_cor_r) hc1) 11 (by omega); simp [xa_up] at q; omega⟩) (by omega)
    · intro (c3 : v1 = (-2))
      show post (some (0, 0, (-4), 0, v1)) M1
      exact k _ _ ⟨_, _, _, rfl, v1, _, _, _, hS, Or.inl ⟨by omega, rfl⟩⟩ (xm_cor_t (xm_cor_f (by omega) xm_cor_r) hc1)

theorem cw_101 {b : Bool} {A : Nat → Nat} {h0 : g_H} {d : Nat} {M : xa_M} {post : Option xa_V → xa_M → Prop} {l1 u1 l2 u2 l3 u3 x1 x2 x3 : Int} {F : Int → Int} {N : xa_M} (hT : tk_M N) (hR : tk_R M N) (hB : tk_B (bk_p b) M N) (hFF : 1 ≤ x1 ∧ x1 ≤ 9 → tk_Y N x1 F) (k : ∀ (lo hi r : Int) (M1 : xa_M), tf_101 N x1 x2 x3 r → (∀ (q : Nat) (j : Int), ¬ (15 ≤ q ∧ q ≤ 29) → ¬ (q = 48 ∨ q = 49) → M1 q j = M q j) → post (some (0, 0, lo, hi, r)) M1) : xa_C (xl_I b) A h0 (d + 7) 101 [(2, 0, 0, 0, 0), (0, 0, l1, u1, x1), (0, 0, l2, u2, x2), (0, 0, l3, u3, x3)] M post := by
  cases b
  · exact cx_101_50 hT hR hB hFF k
  · exact cx_101_55 hT hR hB hFF k
theorem tf_lmR2 {b : Bool} {U V U' V' : xa_M} (h : lm_R b (xj U V)) (e1 : ∀ (q : Nat) (j : Int), ¬ (15 ≤ q ∧ q ≤ 29) → ¬ (q = 48 ∨ q = 49) → U' q j = U q j) (e2 : xm_cor V V') : lm_R b (xj U' V') := by
  refine lm_R_k (fun q j hC => ?_) h
  unfold xj
  by_cases hq : q < 60
  · rw [if_pos hq, if_pos hq]
    exact e1 q j (by first | (have t9 := lm_Cq hC; omega) | (unfold lm_C at hC; omega)) (by first | (have t9 := lm_Cq hC; omega) | (unfold lm_C at hC; omega))
  · rw [if_neg hq, if_neg hq]
    exact e2 q j (by first | (have t9 := lm_Cq hC; unfold xm_scr; omega) | (unfold lm_C at hC; unfold xm_scr; omega))
theorem iv_p101 (A : Nat → Nat) (cmp : Bool) : iv_pair (iv_J A) A 101 245 [0, 0, 0] cmp false := iv_armV (fun W b h as M hJ hM hInv hs hR => by
  obtain ⟨m1, ys, rfl, -, hs⟩ := iv_spc hs
  obtain ⟨m2, ys, rfl, -, hs⟩ := iv_spc hs
  obtain ⟨m3, ys, rfl, -, hs⟩ := iv_spc hs
  obtain rfl := iv_sp0 hs
  have b0 := xm_f0 (xa_H_Mok hM)
  have b6 := xm_f6 (xa_H_Mok hM)
  have r1 : iv_num h 1 9 = M 60 0 := hR.1.1
  have r2 : iv_num h 1 10 = M 60 6 := hR.1.2.1
  have r3 : ∀ i, 0 ≤ i → i < 14 → iv_num h 2 i = M 61 i ∧ iv_num h 3 i = M 62 i ∧ iv_num h 5 i = M 64 i ∧ iv_num h 6 i = M 65 i ∧ iv_num h 4 i = M 63 i := hR.1.2.2.1
  have r4 : ∀ i, 0 ≤ i → i < 16 → iv_num h 7 i = M 66 i ∧ iv_num h 8 i = M 67 i := hR.1.2.2.2
  have hS := hR.2
  obtain ⟨s1, s2, s3, s4⟩ := lm_Sx.mp hR.2.1
  have hMk := xa_H_Mok hM
  have b11 := xm_f11 hMk
  have hT := tk_M_of hMk hInv
  have hRc : tk_R (iv_num h) M := ⟨r1, r2, fun i i0 i1 => by
    obtain ⟨g1, g2, g3, g4, -⟩ := r3 i i0 i1
    exact ⟨g1, g2, g3, g4⟩, r4⟩
  have hB : tk_B (bk_p b) (iv_num h) M := ⟨s3, b11, fun p p0 p1 => by
    obtain ⟨g1, g2, -⟩ := s4 p p0 (by omega) p1
    have t1 := xm_t70 hMk p p0 (by omega)
    have t2 := xm_t71 hMk p p0 (by omega)
    have t3 := hInv.2.2.1 p p0 p1
    exact ⟨⟨g1, g2⟩, by omega, by omega⟩⟩
  have hx : ∃ F : Int → Int, (1 ≤ m1.toInt ∧ m1.toInt ≤ 9) → tk_Y M m1.toInt F := by
    by_cases c : 1 ≤ m1.toInt ∧ m1.toInt ≤ 9
    · obtain ⟨F, hF1, hF2⟩ := wr_ex hMk (X := m1.toInt) (by omega) b6.1 (fun i i0 i1 => tk_AB hT i i0 i1)
      exact ⟨F, fun _ => ⟨hF1, fun a _ _ => hF2 a⟩⟩
    · exact ⟨fun _ => 0, fun h => absurd h c⟩
  obtain ⟨F, hFF⟩ := hx
  have hc := cw_101 (b := b) (A := A) (h0 := h) (d := 53) (M := iv_num h) (N := M) (F := F) (l1 := -2147483648) (u1 := 2147483647) (l2 := -2147483648) (u2 := 2147483647) (l3 := -2147483648) (u3 := 2147483647) (x1 := m1.toInt) (x2 := m2.toInt) (x3 := m3.toInt) (post := fun o M1 => ∃ lo hi n, o = some (0, 0, lo, hi, n) ∧ (tf_101 M m1.toInt m2.toInt m3.toInt n ∧ ∀ (q : Nat) (j : Int), ¬ (15 ≤ q ∧ q ≤ 29) → ¬ (q = 48 ∨ q = 49) → M1 q j = iv_num h q j)) hT hRc hB hFF (fun lo hi n M1 x1 x2 => ⟨lo, hi, n, rfl, x1, x2⟩)
  have hm := fun (h1 : g_H) => ms_sureF (A := A) (h0 := h1) (d := 55) (M := M) (l1 := -2147483648) (u1 := 2147483647) (l2 := -2147483648) (u2 := 2147483647) (l3 := -2147483648) (u3 := 2147483647) (a := m1.toInt) (x2 := m2.toInt) (x3 := m3.toInt) (post := fun o M2 => (∃ lo hi n, o = some (0, 0, lo, hi, n) ∧ (tf_101 M m1.toInt m2.toInt m3.toInt n ∧ xm_cor M M2)) ∧ xm_Inv M2) hInv (fun o M2 x1 x2 => by
    obtain ⟨lo, hi, n, rfl, x1⟩ := x1
    exact ⟨⟨lo, hi, n, rfl, x1, x2⟩, xm_Inv_cor x2 hInv⟩)
  refine ⟨[(2, 0, 0, 0, 0), (0, 0, -2147483648, 2147483647, m1.toInt), (0, 0, -2147483648, 2147483647, m2.toInt), (0, 0, -2147483648, 2147483647, m3.toInt)], [(2, 60, 0, 0, 0), (0, 0, -2147483648, 2147483647, m1.toInt), (0, 0, -2147483648, 2147483647, m2.toInt), (0, 0, -2147483648, 2147483647, m3.toInt)], _, _, ⟨rfl, iv_i m1, iv_i m2, iv_i m3, trivial⟩, ⟨rfl, iv_i m1, iv_i m2, iv_i m3, trivial⟩, fun n n' M1 M2 h1 h2 => ⟨fun _ => tf_101_one hT h1.1 h2.1, fun x => h2.2 104 x (by unfold xm_scr; omega), fun x => h2.2 105 x (by unfold xm_scr; omega), tf_lmR2 hR h1.2 h2.2⟩, hc, hm⟩)
