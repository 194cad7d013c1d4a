-- the class's find, told
theorem cx_23_19 {b : Bool} {A : Nat → Nat} {h0 : g_H} {d : Nat} {M : xa_M} {post : Option xa_V → xa_M → Prop} {l1 u1 : Int} {i : Int} (h1 : 0 ≤ i ∧ i < 10) (k1 : post (some (0, 0, (-2147483648), 2147483647, M 19 i)) M) : xa_C (xl_I b) A h0 (d + 1) 23 [(2, 19, 0, 0, 0), (0, 0, l1, u1, i)] M post := by
  refine xa_C_arg [(2, 19, 0, 0, 0), (0, 0, (-2147483648), 2147483647, i)] (xa_svR (xa_svI (fun _ _ _ _ => by omega) xa_sv0)) ?_
  refine xa_meth (Q0 := (2, 1, false, 0, 0, 11)) (by decide +kernel) ⟨rfl, rfl⟩ (full := s_c_23) rfl rfl ?_
  intro hM hv Q hgo
  refine hgo.1 15 [] 0 _ _ _ ?_
  refine And.intro ?_ ?_
  · intro (c1 : i < 0)
    show post (some (0, 0, 0, 0, 0)) M
    exact absurd h1 (by omega)
  · intro (c1 : 0 ≤ i)
    refine And.intro ?_ ?_
    · intro (c2 : 10 ≤ i)
      show post (some (0, 0, 0, 0, 0)) M
      exact absurd h1 (by omega)
    · intro (c2 : i < 10)
      refine And.intro (show 0 ≤ i ∧ i < 10 by omega) ?_
      show post (some (0, 0, (-2147483648), 2147483647, M 19 i)) M
      exact k1
theorem cx_82s_19 {b : Bool} {A : Nat → Nat} {h0 : g_H} {d : Nat} {M : xa_M} {post : Option xa_V → xa_M → Prop} {l1 u1 l2 u2 n w : Int} (hn : 0 ≤ n ∧ n ≤ 10) (k : ∀ r : Int, r = wf_b (M 19) n w → post (some (0, 0, 0, 1, r)) M) : xa_C (xl_I b) A h0 (d + 2) 82 [(2, 19, 0, 0, 0), (0, 0, l1, u1, n), (0, 0, l2, u2, w)] M post := by
  refine xa_C_arg [(2, 19, 0, 0, 0), (0, 0, 0, 10, n), (0, 0, (-2147483648), 2147483647, w)] (xa_svR (xa_svI (fun _ _ _ _ => by omega) (xa_svI (fun _ _ _ _ => by omega) xa_sv0))) (xa_C_wk ?_)
  refine xa_meth (Q0 := (4, 2, false, 0, 0, 10)) (by decide +kernel) ⟨rfl, rfl⟩ (full := s_c_82) rfl rfl ?_
  intro hM hv Q hgo
  have loop : ∀ (f : Nat) (i : Int), 0 ≤ i → i ≤ n → (∀ j : Int, 0 ≤ j → j < i → ¬ M 19 j = w) → 10 - i < (f : Int) → Q 2 [(3, (0, 0, 0, 10, i)), (0, (2, 19, 0, 0, 0)), (1, (0, 0, 0, 10, n)), (2, (0, 0, (-2147483648), 2147483647, w))] [] M := by
    intro f
    induction f with
    | zero => intro i i0 i1 hno hms; omega
    | succ f ih =>
      intro i i0 i1 hno hms
      refine hgo.1 15 [2] 2 _ _ _ ?_
      refine And.intro ?_ ?_
      · intro (c1 : n ≤ i)
        show xa_wk post (some (0, 0, 0, 0, 0)) M
        exact xa_wkI 0 rfl (fun _ _ => by omega) (k 0 ((wf_b0 hn.1 (fun j j0 j1 => hno j j0 (by omega))).symm))
      · intro (c1 : i < n)
        show xa_C (xl_I b) A h0 _ 23 [(2, 19, 0, 0, 0), (0, 0, 0, 10, i)] M _
        refine cx_23_19 (show 0 ≤ i ∧ i < 10 by omega) ?_
        refine And.intro ?_ ?_
        · intro (c2 : ¬ (M 19 i) = w)
          show Q 2 [(3, (0, 0, 1, 11, i + 1)), (0, (2, 19, 0, 0, 0)), (1, (0, 0, 0, 10, n)), (2, (0, 0, (-2147483648), 2147483647, w))] [] M
          refine hgo.2.1 2 _ [(3, (0, 0, 0, 10, i + 1)), (0, (2, 19, 0, 0, 0)), (1, (0, 0, 0, 10, n)), (2, (0, 0, (-2147483648), 2147483647, w))] _ _ (xa_subI rfl rfl (fun _ _ _ _ => by omega) (xa_subR rfl (xa_subI rfl rfl (fun _ _ _ _ => by omega) (xa_subI rfl rfl (fun _ _ _ _ => by omega) (xa_sub0))))) ?_
          exact ih (i + 1) (by omega) (by omega) (fun j j0 j1 => by
            by_cases e : j = i
            · rw [e]
              omega
            · exact hno j j0 (by omega)) (by omega)
        · intro (c2 : (M 19 i) = w)
          show xa_wk post (some (0, 0, 1, 1, 1)) M
          exact xa_wkI 1 rfl (fun _ _ => by omega) (k 1 ((wf_b1 hn.1).mpr ⟨i, by omega, by omega, by omega⟩).symm)
  refine hgo.1 7 [2] 0 _ _ _ ?_
  show Q 2 [(3, (0, 0, 0, 0, 0)), (0, (2, 19, 0, 0, 0)), (1, (0, 0, 0, 10, n)), (2, (0, 0, (-2147483648), 2147483647, w))] [] M
  refine hgo.2.1 2 _ [(3, (0, 0, 0, 10, 0)), (0, (2, 19, 0, 0, 0)), (1, (0, 0, 0, 10, n)), (2, (0, 0, (-2147483648), 2147483647, w))] _ _ (xa_subI rfl rfl (fun _ _ _ _ => by omega) (xa_subR rfl (xa_subI rfl rfl (fun _ _ _ _ => by omega) (xa_subI rfl rfl (fun _ _ _ _ => by omega) (xa_sub0))))) ?_
  exact loop 11 0 (by omega) (by omega) (fun j j0 j1 => by omega) (by omega)
theorem cx_23_20 {b : Bool} {A : Nat → Nat} {h0 : g_H} {d : Nat} {M : xa_M} {post : Option xa_V → xa_M → Prop} {l1 u1 : Int} {i : Int} (h1 : 0 ≤ i ∧ i < 10) (k1 : post (some (0, 0, (-2147483648), 2147483647, M 20 i)) M) : xa_C (xl_I b) A h0 (d + 1) 23 [(2, 20, 0, 0, 0), (0, 0, l1, u1, i)] M post := by
  refine xa_C_arg [(2, 20, 0, 0, 0), (0, 0, (-2147483648), 2147483647, i)] (xa_svR (xa_svI (fun _ _ _ _ => by omega) xa_sv0)) ?_
  refine xa_meth (Q0 := (2, 1, false, 0, 0, 11)) (by decide +kernel) ⟨rfl, rfl⟩ (full := s_c_23) rfl rfl ?_
  intro hM hv Q hgo
  refine hgo.1 15 [] 0 _ _ _ ?_
  refine And.intro ?_ ?_
  · intro (c1 : i < 0)
    show post (some (0, 0, 0, 0, 0)) M
    exact absurd h1 (by omega)
  · intro (c1 : 0 ≤ i)
    refine And.intro ?_ ?_
    · intro (c2 : 10 ≤ i)
      show post (some (0, 0, 0, 0, 0)) M
      exact absurd h1 (by omega)
    · intro (c2 : i < 10)
      refine And.intro (show 0 ≤ i ∧ i < 10 by omega) ?_
      show post (some (0, 0, (-2147483648), 2147483647, M 20 i)) M
      exact k1
theorem cx_82s_20 {b : Bool} {A : Nat → Nat} {h0 : g_H} {d : Nat} {M : xa_M} {post : Option xa_V → xa_M → Prop} {l1 u1 l2 u2 n w : Int} (hn : 0 ≤ n ∧ n ≤ 10) (k : ∀ r : Int, r = wf_b (M 20) n w → post (some (0, 0, 0, 1, r)) M) : xa_C (xl_I b) A h0 (d + 2) 82 [(2, 20, 0, 0, 0), (0, 0, l1, u1, n), (0, 0, l2, u2, w)] M post := by
  refine xa_C_arg [(2, 20, 0, 0, 0), (0, 0, 0, 10, n), (0, 0, (-2147483648), 2147483647, w)] (xa_svR (xa_svI (fun _ _ _ _ => by omega) (xa_svI (fun _ _ _ _ => by omega) xa_sv0))) (xa_C_wk ?_)
  refine xa_meth (Q0 := (4, 2, false, 0, 0, 10)) (by decide +kernel) ⟨rfl, rfl⟩ (full := s_c_82) rfl rfl ?_
  intro hM hv Q hgo
  have loop : ∀ (f : Nat) (i : Int), 0 ≤ i → i ≤ n → (∀ j : Int, 0 ≤ j → j < i → ¬ M 20 j = w) → 10 - i < (f : Int) → Q 2 [(3, (0, 0, 0, 10, i)), (0, (2, 20, 0, 0, 0)), (1, (0, 0, 0, 10, n)), (2, (0, 0, (-2147483648), 2147483647, w))] [] M := by
    intro f
    induction f with
    | zero => intro i i0 i1 hno hms; omega
    | succ f ih =>
      intro i i0 i1 hno hms
      refine hgo.1 15 [2] 2 _ _ _ ?_
      refine And.intro ?_ ?_
      · intro (c1 : n ≤ i)
        show xa_wk post (some (0, 0, 0, 0, 0)) M
        exact xa_wkI 0 rfl (fun _ _ => by omega) (k 0 ((wf_b0 hn.1 (fun j j0 j1 => hno j j0 (by omega))).symm))
      · intro (c1 : i < n)
        show xa_C (xl_I b) A h0 _ 23 [(2, 20, 0, 0, 0), (0, 0, 0, 10, i)] M _
        refine cx_23_20 (show 0 ≤ i ∧ i < 10 by omega) ?_
        refine And.intro ?_ ?_
        · intro (c2 : ¬ (M 20 i) = w)
          show Q 2 [(3, (0, 0, 1, 11, i + 1)), (0, (2, 20, 0, 0, 0)), (1, (0, 0, 0, 10, n)), (2, (0, 0, (-2147483648), 2147483647, w))] [] M
          refine hgo.2.1 2 _ [(3, (0, 0, 0, 10, i + 1)), (0, (2, 20, 0, 0, 0)), (1, (0, 0, 0, 10, n)), (2, (0, 0, (-2147483648), 2147483647, w))] _ _ (xa_subI rfl rfl (fun _ _ _ _ => by omega) (xa_subR rfl (xa_subI rfl rfl (fun _ _ _ _ => by omega) (xa_subI rfl rfl (fun _ _ _ _ => by omega) (xa_sub0))))) ?_
          exact ih (i + 1) (by omega) (by omega) (fun j j0 j1 => by
            by_cases e : j = i
            · rw [e]
              omega
            · exact hno j j0 (by omega)) (by omega)
        · intro (c2 : (M 20 i) = w)
          show xa_wk post (some (0, 0, 1, 1, 1)) M
          exact xa_wkI 1 rfl (fun _ _ => by omega) (k 1 ((wf_b1 hn.1).mpr ⟨i, by omega, by omega, by omega⟩).symm)
  refine hgo.1 7 [2] 0 _ _ _ ?_
  show Q 2 [(3, (0, 0, 0, 0, 0)), (0, (2, 20, 0, 0, 0)), (1, (0, 0, 0, 10, n)), (2, (0, 0, (-2147483648), 2147483647, w))] [] M
  refine hgo.2.1 2 _ [(3, (0, 0, 0, 10, 0)), (0, (2, 20, 0, 0, 0)), (1, (0, 0, 0, 10, n)), (2, (0, 0, (-2147483648), 2147483647, w))] _ _ (xa_subI rfl rfl (fun _ _ _ _ => by omega) (xa_subR rfl (xa_subI rfl rfl (fun _ _ _ _ => by omega) (xa_subI rfl rfl (fun _ _ _ _ => by omega) (xa_sub0))))) ?_
  exact loop 11 0 (by omega) (by omega) (fun j j0 j1 => by omega) (by omega)
theorem cx_81s {b : Bool} {A : Nat → Nat} {h0 : g_H} {d : Nat} {M : xa_M} {post : Option xa_V → xa_M → Prop} {l1 u1 x1 n : Int} {D : Int → Int} (hD : M 19 = D) (hl : M 16 4 = n) (hn : 0 ≤ n ∧ n ≤ 10) (k : ∀ r : Int, r = wf_b D n x1 → post (some (0, 0, 0, 1, r)) M) : xa_C (xl_I b) A h0 (d + 3) 81 [(2, 16, 0, 0, 0), (0, 0, l1, u1, x1)] M post := by
  refine xa_C_arg [(2, 16, 0, 0, 0), (0, 0, (-2147483648), 2147483647, x1)] (xa_svR (xa_svI (fun _ _ _ _ => by omega) xa_sv0)) ?_
  refine xa_meth (Q0 := (2, 2, false, 0, 0, 10)) (by decide +kernel) ⟨rfl, rfl⟩ (full := s_c_81) rfl rfl ?_
  intro hM hv Q hgo
  refine hgo.1 11 [] 0 _ _ _ ?_
  show xa_C (xl_I b) A h0 _ 82 [(2, 19, 0, 0, 0), (0, 0, (-2147483648), 2147483647, M 16 4), (0, 0, (-2147483648), 2147483647, x1)] M _
  refine cx_82s_19 (show 0 ≤ (M 16 4) ∧ (M 16 4) ≤ 10 by omega) ?_
  intro r105 (i1 : r105 = wf_b (M 19) (M 16 4) x1)
  show post (some (0, 0, 0, 1, r105)) M
  exact k _ (by rw [← hD, ← hl]; exact i1)
theorem cx_83s {b : Bool} {A : Nat → Nat} {h0 : g_H} {d : Nat} {M : xa_M} {post : Option xa_V → xa_M → Prop} {l1 u1 x1 n : Int} {D : Int → Int} (hD : M 20 = D) (hl : M 16 4 = n) (hn : 0 ≤ n ∧ n ≤ 10) (k : ∀ r : Int, r = wf_b D n x1 → post (some (0, 0, 0, 1, r)) M) : xa_C (xl_I b) A h0 (d + 3) 83 [(2, 16, 0, 0, 0), (0, 0, l1, u1, x1)] M post := by
  refine xa_C_arg [(2, 16, 0, 0, 0), (0, 0, (-2147483648), 2147483647, x1)] (xa_svR (xa_svI (fun _ _ _ _ => by omega) xa_sv0)) ?_
  refine xa_meth (Q0 := (2, 2, false, 0, 0, 10)) (by decide +kernel) ⟨rfl, rfl⟩ (full := s_c_83) rfl rfl ?_
  intro hM hv Q hgo
  refine hgo.1 11 [] 0 _ _ _ ?_
  show xa_C (xl_I b) A h0 _ 82 [(2, 20, 0, 0, 0), (0, 0, (-2147483648), 2147483647, M 16 4), (0, 0, (-2147483648), 2147483647, x1)] M _
  refine cx_82s_20 (show 0 ≤ (M 16 4) ∧ (M 16 4) ≤ 10 by omega) ?_
  intro r106 (i1 : r106 = wf_b (M 20) (M 16 4) x1)
  show post (some (0, 0, 0, 1, r106)) M
  exact k _ (by rw [← hD, ← hl]; exact i1)
theorem cx_18_21 {b : Bool} {A : Nat → Nat} {h0 : g_H} {d : Nat} {M : xa_M} {post : Option xa_V → xa_M → Prop} {l1 u1 l2 u2 : Int} {i v : Int} (h1 : 0 ≤ i ∧ i < 14) (k1 : post none (xa_up M 21 i v)) : xa_C (xl_I b) A h0 (d + 1) 18 [(2, 21, 0, 0, 0), (0, 0, l1, u1, i), (0, 0, l2, u2, v)] M post := by
  refine xa_C_arg [(2, 21, 0, 0, 0), (0, 0, (-2147483648), 2147483647, i), (0, 0, (-2147483648), 2147483647, v)] (xa_svR (xa_svI (fun _ _ _ _ => by omega) (xa_svI (fun _ _ _ _ => by omega) xa_sv0))) ?_
  refine xa_meth (Q0 := (3, 0, false, 0, 0, 11)) (by decide +kernel) ⟨rfl, rfl⟩ (full := s_c_18) rfl rfl ?_
  intro hM hv Q hgo
  refine hgo.1 15 [] 0 _ _ _ ?_
  refine And.intro ?_ ?_
  · intro (c1 : i < 0)
    show post none M
    exact absurd h1 (by omega)
  · intro (c1 : 0 ≤ i)
    refine And.intro ?_ ?_
    · intro (c2 : 14 ≤ i)
      show post none M
      exact absurd h1 (by omega)
    · intro (c2 : i < 14)
      refine And.intro (show 0 ≤ i ∧ i < 14 by omega) ?_
      show post none (xa_up M 21 i v)
      exact k1
theorem cx_18_22 {b : Bool} {A : Nat → Nat} {h0 : g_H} {d : Nat} {M : xa_M} {post : Option xa_V → xa_M → Prop} {l1 u1 l2 u2 : Int} {i v : Int} (h1 : 0 ≤ i ∧ i < 14) (k1 : post none (xa_up M 22 i v)) : xa_C (xl_I b) A h0 (d + 1) 18 [(2, 22, 0, 0, 0), (0, 0, l1, u1, i), (0, 0, l2, u2, v)] M post := by
  refine xa_C_arg [(2, 22, 0, 0, 0), (0, 0, (-2147483648), 2147483647, i), (0, 0, (-2147483648), 2147483647, v)] (xa_svR (xa_svI (fun _ _ _ _ => by omega) (xa_svI (fun _ _ _ _ => by omega) xa_sv0))) ?_
  refine xa_meth (Q0 := (3, 0, false, 0, 0, 11)) (by decide +kernel) ⟨rfl, rfl⟩ (full := s_c_18) rfl rfl ?_
  intro hM hv Q hgo
  refine hgo.1 15 [] 0 _ _ _ ?_
  refine And.intro ?_ ?_
  · intro (c1 : i < 0)
    show post none M
    exact absurd h1 (by omega)
  · intro (c1 : 0 ≤ i)
    refine And.intro ?_ ?_
    · intro (c2 : 14 ≤ i)
      show post none M
      exact absurd h1 (by omega)
    · intro (c2 : i < 14)
      refine And.intro (show 0 ≤ i ∧ i < 14 by omega) ?_
      show post none (xa_up M 22 i v)
      exact k1
theorem cx_18_23 {b : Bool} {A : Nat → Nat} {h0 : g_H} {d : Nat} {M : xa_M} {post : Option xa_V → xa_M → Prop} {l1 u1 l2 u2 : Int} {i v : Int} (h1 : 0 ≤ i ∧ i < 14) (k1 : post none (xa_up M 23 i v)) : xa_C (xl_I b) A h0 (d + 1) 18 [(2, 23, 0, 0, 0), (0, 0, l1, u1, i), (0, 0, l2, u2, v)] M post := by
  refine xa_C_arg [(2, 23, 0, 0, 0), (0, 0, (-2147483648), 2147483647, i), (0, 0, (-2147483648), 2147483647, v)] (xa_svR (xa_svI (fun _ _ _ _ => by omega) (xa_svI (fun _ _ _ _ => by omega) xa_sv0))) ?_
  refine xa_meth (Q0 := (3, 0, false, 0, 0, 11)) (by decide +kernel) ⟨rfl, rfl⟩ (full := s_c_18) rfl rfl ?_
  intro hM hv Q hgo
  refine hgo.1 15 [] 0 _ _ _ ?_
  refine And.intro ?_ ?_
  · intro (c1 : i < 0)
    show post none M
    exact absurd h1 (by omega)
  · intro (c1 : 0 ≤ i)
    refine And.intro ?_ ?_
    · intro (c2 : 14 ≤ i)
      show post none M
      exact absurd h1 (by omega)
    · intro (c2 : i < 14)
      refine And.intro (show 0 ≤ i ∧ i < 14 by omega) ?_
      show post none (xa_up M 23 i v)
      exact k1
theorem cx_18_24 {b : Bool} {A : Nat → Nat} {h0 : g_H} {d : Nat} {M : xa_M} {post : Option xa_V → xa_M → Prop} {l1 u1 l2 u2 : Int} {i v : Int} (h1 : 0 ≤ i ∧ i < 14) (h2 : 0 ≤ v ∧ v ≤ 400) (k1 : post none (xa_up M 24 i v)) : xa_C (xl_I b) A h0 (d + 1) 18 [(2, 24, 0, 0, 0), (0, 0, l1, u1, i), (0, 0, l2, u2, v)] M post := by
  refine xa_C_arg [(2, 24, 0, 0, 0), (0, 0, (-2147483648), 2147483647, i), (0, 0, (-2147483648), 2147483647, v)] (xa_svR (xa_svI (fun _ _ _ _ => by omega) (xa_svI (fun _ _ _ _ => by omega) xa_sv0))) ?_
  refine xa_meth (Q0 := (3, 0, false, 0, 0, 11)) (by decide +kernel) ⟨rfl, rfl⟩ (full := s_c_18) rfl rfl ?_
  intro hM hv Q hgo
  refine hgo.1 15 [] 0 _ _ _ ?_
  refine And.intro ?_ ?_
  · intro (c1 : i < 0)
    show post none M
    exact absurd h1 (by omega)
  · intro (c1 : 0 ≤ i)
    refine And.intro ?_ ?_
    · intro (c2 : 14 ≤ i)
      show post none M
      exact absurd h1 (by omega)
    · intro (c2 : i < 14)
      refine And.intro (show 0 ≤ i ∧ i < 14 by omega) ?_
      refine And.intro (show 0 ≤ v ∧ v ≤ 400 by omega) ?_
      show post none (xa_up M 24 i v)
      exact k1
theorem cx_74s {b : Bool} {A : Nat → Nat} {h0 : g_H} {d : Nat} {M : xa_M} {post : Option xa_V → xa_M → Prop} {l1 u1 X : Int} {F : Int → Int} (hL : wy_L (M 1 10) (fun i => M 5 (M 7 i)) (fun i => M 5 (M 8 i)) F X) (hX : 0 ≤ X ∧ X < 10) (hn : 0 ≤ M 1 10 ∧ M 1 10 ≤ 16) (hr : ∀ k, 0 ≤ k → k < M 1 10 → (0 ≤ M 7 k ∧ M 7 k < 14) ∧ (0 ≤ M 8 k ∧ M 8 k < 14)) (ha : ∀ w, 0 ≤ w → w < 14 → 0 ≤ M 5 w ∧ M 5 w < 10) (hw : 0 ≤ M 1 9 ∧ M 1 9 ≤ 14) (hF9 : 0 < F 0) (k : ∀ (r : Int) (M1 : xa_M), (F 0 < 99 → r = 1 ∧ M1 16 4 = F 0 ∧ (wp_Q (M 1 10) (M 5) (M 7) (M 8) F (F 0) (M1 18) (M1 19) (M1 20) (F 0)) ∧ (wf_W (M1 19) (M1 20) (M 2) (M 3) (F 0) (M1 15 10) (M1 21) (M1 22) (M1 23) (M1 24) (M 1 9))) → (99 ≤ F 0 → r = 0) → (∀ q j, ¬ (15 ≤ q ∧ q ≤ 24) → M1 q j = M q j) → post (some (0, 0, 0, 1, r)) M1) : xa_C (xl_I b) A h0 (d + 5) 74 [(2, 15, 0, 0, 0), (2, 1, 0, 0, 0), (0, 0, l1, u1, X)] M post := by
  refine xa_C_wk ?_
  refine xa_C_arg [(2, 15, 0, 0, 0), (2, 1, 0, 0, 0), (0, 0, (-2147483648), 2147483647, X)] (xa_svR (xa_svR (xa_svI (fun _ _ _ _ => by omega) xa_sv0))) ?_
  refine xa_meth (Q0 := (6, 2, false, 0, 0, 3)) (by decide +kernel) ⟨rfl, rfl⟩ (full := s_c_74) rfl rfl ?_
  intro hM hv Q hgo
  have hFt : F 0 < 99 → F 0 ≤ 10 := fun h => (hL.1.2.2 0 (by decide) (by decide) h).1
  have loop : ∀ (M2 : xa_M), F 0 < 99 → M2 16 4 = F 0 → (wp_Q (M 1 10) (M 5) (M 7) (M 8) F (F 0) (M2 18) (M2 19) (M2 20) (F 0)) → (∀ q j, ¬ (15 ≤ q ∧ q ≤ 24) → M2 q j = M q j) → ∀ (f : Nat) (w : Int) (M1 : xa_M), 0 ≤ w ∧ w ≤ M 1 9 → (∀ q j, ¬ (q = 15 ∧ j = 10) → ¬ (21 ≤ q ∧ q ≤ 24) → M1 q j = M2 q j) → (wf_W (M2 19) (M2 20) (M 2) (M 3) (F 0) (M1 15 10) (M1 21) (M1 22) (M1 23) (M1 24) w) → 14 - w < (f : Int) → Q 21 [(3, (0, 0, 0, 14, w)), (1, (2, 1, 0, 0, 0)), (0, (2, 15, 0, 0, 0))] [] M1 := by
    intro M2 h99 h16 hq2 hk2 f
    have hF10 : 0 ≤ F 0 ∧ F 0 ≤ 10 := by
      have := hFt h99
      omega
    induction f with
    | zero => intro w M1 w1 hk hW hms; clear hW hq2; omega
    | succ f ih =>
      intro w M1 w1 hk hW hms
      have g9 : M1 1 9 = M 1 9 := (hk 1 9 (by decide) (by decide)).trans (hk2 1 9 (by decide))
      have g4 : M1 16 4 = F 0 := (hk 16 4 (by decide) (by decide)).trans h16
      have e18 : M1 18 = M2 18 := funext (fun j => hk 18 j (by omega) (by omega))
      have e19 : M1 19 = M2 19 := funext (fun j => hk 19 j (by omega) (by omega))
      have e20 : M1 20 = M2 20 := funext (fun j => hk 20 j (by omega) (by omega))
      have e2 : M1 2 w = M 2 w := (hk 2 w (by omega) (by omega)).trans (hk2 2 w (by omega))
      have e3 : M1 3 w = M 3 w := (hk 3 w (by omega) (by omega)).trans (hk2 3 w (by omega))
      have b19 := wf_b01 (D := M2 19) (n := F 0) (w := w)
      have b20 := wf_b01 (D := M2 20) (n := F 0) (w := w)
      have gS : 0 ≤ M1 15 10 ∧ M1 15 10 ≤ w := by
        have := wf_sz (Dr := M2 19) (Dn := M2 20) (n := F 0) w.toNat
        rw [hW.1]
        omega
      refine hgo.2.2 _ _ _ _ (fun hM9 _ => ?_)
      have t3 : w < 14 → 0 ≤ M1 3 w ∧ M1 3 w ≤ 400 := fun h => by
        obtain ⟨n, rfl⟩ := Int.eq_ofNat_of_zero_le w1.1
        exact hM9 3 _ _ rfl n (show n < 14 by omega) (show (0 : Nat) < 2 by decide)
      refine hgo.1 66 [21] 21 _ _ _ ?_
      refine And.intro ?_ ?_
      · intro (c1 : (M1 1 9) ≤ w)
        show xa_wk post (some (0, 0, 1, 1, 1)) M1
        exact xa_wkI 1 rfl (fun _ _ => by omega) (k 1 _ (fun h => ⟨rfl, (hk 16 4 (by omega) (by omega)).trans h16, by rw [e18, e19, e20]; exact hq2, by rw [e19, e20, show M 1 9 = w by omega]; exact hW⟩) (fun h => by omega) (fun q j h => (hk q j (by omega) (by omega)).trans (hk2 q j h)))
      · intro (c1 : w < (M1 1 9))
        show xa_C (xl_I b) A h0 _ 81 [(2, 16, 0, 0, 0), (0, 0, 0, 14, w)] M1 _
        refine cx_81s e19 g4 hF10 ?_
        intro r107 (i2 : r107 = wf_b (M2 19) (F 0) w)
        show xa_C (xl_I b) A h0 _ 83 [(2, 16, 0, 0, 0), (0, 0, 0, 14, w)] M1 _
        refine cx_83s e20 g4 hF10 ?_
        intro r108 (i3 : r108 = wf_b (M2 20) (F 0) w)
        refine And.intro ?_ ?_
        · intro (c4 : ¬ r107 = 0)
          show xa_C (xl_I b) A h0 _ 18 [(2, 21, 0, 0, 0), (0, 0, (-2147483648), 2147483647, M1 15 10), (0, 0, 0, 14, w)] M1 _
          refine cx_18_21 (show 0 ≤ (M1 15 10) ∧ (M1 15 10) < 14 by omega) ?_
          refine And.intro ?_ ?_
          · intro (c5 : r107 = 0)
            exfalso
            omega
          · intro (c5 : ¬ r107 = 0)
            refine And.intro ?_ ?_
            · intro (c6 : r108 = 0)
              show xa_C (xl_I b) A h0 _ 18 [(2, 22, 0, 0, 0), (0, 0, (-2147483648), 2147483647, M1 15 10), (0, 0, 1, 1, 1 - 0)] (xa_up M1 21 (M1 15 10) w) _
              refine cx_18_22 (show 0 ≤ (M1 15 10) ∧ (M1 15 10) < 14 by omega) ?_
              show xa_C (xl_I b) A h0 _ 22 [(2, 1, 0, 0, 0), (0, 0, 0, 14, w)] (xa_up (xa_up M1 21 (M1 15 10) w) 22 (M1 15 10) (1 - 0)) _
              refine cx_22_1 (show 0 ≤ w ∧ w < 14 by omega) ?_
              show xa_C (xl_I b) A h0 _ 18 [(2, 23, 0, 0, 0), (0, 0, (-2147483648), 2147483647, M1 15 10), (0, 0, (-2147483648), 2147483647, M1 2 w)] (xa_up (xa_up M1 21 (M1 15 10) w) 22 (M1 15 10) (1 - 0)) _
              refine cx_18_23 (show 0 ≤ (M1 15 10) ∧ (M1 15 10) < 14 by omega) ?_
              show xa_C (xl_I b) A h0 _ 25 [(2, 1, 0, 0, 0), (0, 0, 0, 14, w)] (xa_up (xa_up (xa_up M1 21 (M1 15 10) w) 22 (M1 15 10) (1 - 0)) 23 (M1 15 10) (M1 2 w)) _
              refine cx_25_1 (show 0 ≤ w ∧ w < 14 by omega) ?_
              show xa_C (xl_I b) A h0 _ 18 [(2, 24, 0, 0, 0), (0, 0, (-2147483648), 2147483647, M1 15 10), (0, 0, 0, 400, M1 3 w)] (xa_up (xa_up (xa_up M1 21 (M1 15 10) w) 22 (M1 15 10) (1 - 0)) 23 (M1 15 10) (M1 2 w)) _
              refine cx_18_24 (show 0 ≤ (M1 15 10) ∧ (M1 15 10) < 14 by omega) (show 0 ≤ (M1 3 w) ∧ (M1 3 w) ≤ 400 by omega) ?_
              show Q 21 [(3, (0, 0, 1, 15, w + 1)), (5, (0, 0, 0, 1, r108)), (4, (0, 0, 0, 1, r107)), (1, (2, 1, 0, 0, 0)), (0, (2, 15, 0, 0, 0))] [] (xa_up (xa_up (xa_up (xa_up (xa_up M1 21 (M1 15 10) w) 22 (M1 15 10) (1 - 0)) 23 (M1 15 10) (M1 2 w)) 24 (M1 15 10) (M1 3 w)) 15 10 (xa_w32 ((M1 15 10) + 1)))
              have g15 : xa_w32 ((M1 15 10) + 1) = M1 15 10 + 1 := xa_w32_id (by omega) (by omega)
              have q15 : (xa_up (xa_up (xa_up (xa_up (xa_up M1 21 (M1 15 10) w) 22 (M1 15 10) (1 - 0)) 23 (M1 15 10) (M1 2 w)) 24 (M1 15 10) (M1 3 w)) 15 10 (xa_w32 ((M1 15 10) + 1))) 15 10 = M1 15 10 + 1 := (xa_up_eq).trans g15
              refine hgo.2.1 21 _ [(3, (0, 0, 0, 14, w + 1)), (1, (2, 1, 0, 0, 0)), (0, (2, 15, 0, 0, 0))] _ _ (xa_subI rfl rfl (fun _ _ _ _ => by omega) (xa_subR rfl (xa_subR rfl (xa_sub0)))) ?_
              exact ih (w + 1) (xa_up (xa_up (xa_up (xa_up (xa_up M1 21 (M1 15 10) w) 22 (M1 15 10) (1 - 0)) 23 (M1 15 10) (M1 2 w)) 24 (M1 15 10) (M1 3 w)) 15 10 (xa_w32 ((M1 15 10) + 1))) (by omega) (fun q j h1 h2 => (xa_up_ne (by omega)).trans ((xa_up_ne (by omega)).trans ((xa_up_ne (by omega)).trans ((xa_up_ne (by omega)).trans ((xa_up_ne (by omega)).trans (hk q j h1 h2)))))) (by
                rw [q15]
                exact wf_Wy w1.1 hW (by omega) (fun j => by
                  by_cases e : j = M1 15 10
                  · rw [if_pos e, e]
                    exact ((xa_up_ne (by omega)).trans ((xa_up_ne (by omega)).trans ((xa_up_ne (by omega)).trans ((xa_up_ne (by omega)).trans (xa_up_eq)))))
                  · rw [if_neg e]
                    exact (xa_up_ne (by omega)).trans ((xa_up_ne (by omega)).trans ((xa_up_ne (by omega)).trans ((xa_up_ne (by omega)).trans (xa_up_ne (by omega)))))) (fun j => by
                  by_cases e : j = M1 15 10
                  · rw [if_pos e, e]
                    exact ((xa_up_ne (by omega)).trans ((xa_up_ne (by omega)).trans ((xa_up_ne (by omega)).trans (xa_up_eq)))).trans (show (1 - 0 : Int) = wf_b (M2 19) (F 0) w - wf_b (M2 20) (F 0) w by omega)
                  · rw [if_neg e]
                    exact (xa_up_ne (by omega)).trans ((xa_up_ne (by omega)).trans ((xa_up_ne (by omega)).trans ((xa_up_ne (by omega)).trans (xa_up_ne (by omega)))))) (fun j => by
                  by_cases e : j = M1 15 10
                  · rw [if_pos e, e]
                    exact ((xa_up_ne (by omega)).trans ((xa_up_ne (by omega)).trans (xa_up_eq))).trans e2
                  · rw [if_neg e]
                    exact (xa_up_ne (by omega)).trans ((xa_up_ne (by omega)).trans ((xa_up_ne (by omega)).trans ((xa_up_ne (by omega)).trans (xa_up_ne (by omega)))))) (fun j => by
                  by_cases e : j = M1 15 10
                  · rw [if_pos e, e]
                    exact ((xa_up_ne (by omega)).trans (xa_up_eq)).trans e3
                  · rw [if_neg e]
                    exact (xa_up_ne (by omega)).trans ((xa_up_ne (by omega)).trans ((xa_up_ne (by omega)).trans ((xa_up_ne (by omega)).trans (xa_up_ne (by omega))))))) (by omega)
            · intro (c6 : ¬ r108 = 0)
              show xa_C (xl_I b) A h0 _ 18 [(2, 22, 0, 0, 0), (0, 0, (-2147483648), 2147483647, M1 15 10), (0, 0, 0, 0, 1 - 1)] (xa_up M1 21 (M1 15 10) w) _
              refine cx_18_22 (show 0 ≤ (M1 15 10) ∧ (M1 15 10) < 14 by omega) ?_
              show xa_C (xl_I b) A h0 _ 22 [(2, 1, 0, 0, 0), (0, 0, 0, 14, w)] (xa_up (xa_up M1 21 (M1 15 10) w) 22 (M1 15 10) (1 - 1)) _
              refine cx_22_1 (show 0 ≤ w ∧ w < 14 by omega) ?_
              show xa_C (xl_I b) A h0 _ 18 [(2, 23, 0, 0, 0), (0, 0, (-2147483648), 2147483647, M1 15 10), (0, 0, (-2147483648), 2147483647, M1 2 w)] (xa_up (xa_up M1 21 (M1 15 10) w) 22 (M1 15 10) (1 - 1)) _
              refine cx_18_23 (show 0 ≤ (M1 15 10) ∧ (M1 15 10) < 14 by omega) ?_
              show xa_C (xl_I b) A h0 _ 25 [(2, 1, 0, 0, 0), (0, 0, 0, 14, w)] (xa_up (xa_up (xa_up M1 21 (M1 15 10) w) 22 (M1 15 10) (1 - 1)) 23 (M1 15 10) (M1 2 w)) _
              refine cx_25_1 (show 0 ≤ w ∧ w < 14 by omega) ?_
              show xa_C (xl_I b) A h0 _ 18 [(2, 24, 0, 0, 0), (0, 0, (-2147483648), 2147483647, M1 15 10), (0, 0, 0, 400, M1 3 w)] (xa_up (xa_up (xa_up M1 21 (M1 15 10) w) 22 (M1 15 10) (1 - 1)) 23 (M1 15 10) (M1 2 w)) _
              refine cx_18_24 (show 0 ≤ (M1 15 10) ∧ (M1 15 10) < 14 by omega) (show 0 ≤ (M1 3 w) ∧ (M1 3 w) ≤ 400 by omega) ?_
              show Q 21 [(3, (0, 0, 1, 15, w + 1)), (5, (0, 0, 0, 1, r108)), (4, (0, 0, 0, 1, r107)), (1, (2, 1, 0, 0, 0)), (0, (2, 15, 0, 0, 0))] [] (xa_up (xa_up (xa_up (xa_up (xa_up M1 21 (M1 15 10) w) 22 (M1 15 10) (1 - 1)) 23 (M1 15 10) (M1 2 w)) 24 (M1 15 10) (M1 3 w)) 15 10 (xa_w32 ((M1 15 10) + 1)))
              have g15 : xa_w32 ((M1 15 10) + 1) = M1 15 10 + 1 := xa_w32_id (by omega) (by omega)
              have q15 : (xa_up (xa_up (xa_up (xa_up (xa_up M1 21 (M1 15 10) w) 22 (M1 15 10) (1 - 1)) 23 (M1 15 10) (M1 2 w)) 24 (M1 15 10) (M1 3 w)) 15 10 (xa_w32 ((M1 15 10) + 1))) 15 10 = M1 15 10 + 1 := (xa_up_eq).trans g15
              refine hgo.2.1 21 _ [(3, (0, 0, 0, 14, w + 1)), (1, (2, 1, 0, 0, 0)), (0, (2, 15, 0, 0, 0))] _ _ (xa_subI rfl rfl (fun _ _ _ _ => by omega) (xa_subR rfl (xa_subR rfl (xa_sub0)))) ?_
              exact ih (w + 1) (xa_up (xa_up (xa_up (xa_up (xa_up M1 21 (M1 15 10) w) 22 (M1 15 10) (1 - 1)) 23 (M1 15 10) (M1 2 w)) 24 (M1 15 10) (M1 3 w)) 15 10 (xa_w32 ((M1 15 10) + 1))) (by omega) (fun q j h1 h2 => (xa_up_ne (by omega)).trans ((xa_up_ne (by omega)).trans ((xa_up_ne (by omega)).trans ((xa_up_ne (by omega)).trans ((xa_up_ne (by omega)).trans (hk q j h1 h2)))))) (by
                rw [q15]
                exact wf_Wy w1.1 hW (by omega) (fun j => by
                  by_cases e : j = M1 15 10
                  · rw [if_pos e, e]
                    exact ((xa_up_ne (by omega)).trans ((xa_up_ne (by omega)).trans ((xa_up_ne (by omega)).trans ((xa_up_ne (by omega)).trans (xa_up_eq)))))
                  · rw [if_neg e]
                    exact (xa_up_ne (by omega)).trans ((xa_up_ne (by omega)).trans ((xa_up_ne (by omega)).trans ((xa_up_ne (by omega)).trans (xa_up_ne (by omega)))))) (fun j => by
                  by_cases e : j = M1 15 10
                  · rw [if_pos e, e]
                    exact ((xa_up_ne (by omega)).trans ((xa_up_ne (by omega)).trans ((xa_up_ne (by omega)).trans (xa_up_eq)))).trans (show (1 - 1 : Int) = wf_b (M2 19) (F 0) w - wf_b (M2 20) (F 0) w by omega)
                  · rw [if_neg e]
                    exact (xa_up_ne (by omega)).trans ((xa_up_ne (by omega)).trans ((xa_up_ne (by omega)).trans ((xa_up_ne (by omega)).trans (xa_up_ne (by omega)))))) (fun j => by
                  by_cases e : j = M1 15 10
                  · rw [if_pos e, e]
                    exact ((xa_up_ne (by omega)).trans ((xa_up_ne (by omega)).trans (xa_up_eq))).trans e2
                  · rw [if_neg e]
                    exact (xa_up_ne (by omega)).trans ((xa_up_ne (by omega)).trans ((xa_up_ne (by omega)).trans ((xa_up_ne (by omega)).trans (xa_up_ne (by omega)))))) (fun j => by
                  by_cases e : j = M1 15 10
                  · rw [if_pos e, e]
                    exact ((xa_up_ne (by omega)).trans (xa_up_eq)).trans e3
                  · rw [if_neg e]
                    exact (xa_up_ne (by omega)).trans ((xa_up_ne (by omega)).trans ((xa_up_ne (by omega)).trans ((xa_up_ne (by omega)).trans (xa_up_ne (by omega))))))) (by omega)
        · intro (c4 : r107 = 0)
          refine And.intro ?_ ?_
          · intro (c7 : r108 = 0)
            show Q 21 [(3, (0, 0, 1, 15, w + 1)), (5, (0, 0, 0, 1, r108)), (4, (0, 0, 0, 1, r107)), (1, (2, 1, 0, 0, 0)), (0, (2, 15, 0, 0, 0))] [] M1
            refine hgo.2.1 21 _ [(3, (0, 0, 0, 14, w + 1)), (1, (2, 1, 0, 0, 0)), (0, (2, 15, 0, 0, 0))] _ _ (xa_subI rfl rfl (fun _ _ _ _ => by omega) (xa_subR rfl (xa_subR rfl (xa_sub0)))) ?_
            exact ih (w + 1) M1 (by omega) (fun q j h1 h2 => hk q j h1 h2) (wf_Wn w1.1 hW (by omega)) (by omega)
          · intro (c7 : ¬ r108 = 0)
            show xa_C (xl_I b) A h0 _ 18 [(2, 21, 0, 0, 0), (0, 0, (-2147483648), 2147483647, M1 15 10), (0, 0, 0, 14, w)] M1 _
            refine cx_18_21 (show 0 ≤ (M1 15 10) ∧ (M1 15 10) < 14 by omega) ?_
            refine And.intro ?_ ?_
            · intro (c8 : r107 = 0)
              refine And.intro ?_ ?_
              · intro (c9 : r108 = 0)
                exfalso
                omega
              · intro (c9 : ¬ r108 = 0)
                show xa_C (xl_I b) A h0 _ 18 [(2, 22, 0, 0, 0), (0, 0, (-2147483648), 2147483647, M1 15 10), (0, 0, (-1), (-1), 0 - 1)] (xa_up M1 21 (M1 15 10) w) _
                refine cx_18_22 (show 0 ≤ (M1 15 10) ∧ (M1 15 10) < 14 by omega) ?_
                show xa_C (xl_I b) A h0 _ 22 [(2, 1, 0, 0, 0), (0, 0, 0, 14, w)] (xa_up (xa_up M1 21 (M1 15 10) w) 22 (M1 15 10) (0 - 1)) _
                refine cx_22_1 (show 0 ≤ w ∧ w < 14 by omega) ?_
                show xa_C (xl_I b) A h0 _ 18 [(2, 23, 0, 0, 0), (0, 0, (-2147483648), 2147483647, M1 15 10), (0, 0, (-2147483648), 2147483647, M1 2 w)] (xa_up (xa_up M1 21 (M1 15 10) w) 22 (M1 15 10) (0 - 1)) _
                refine cx_18_23 (show 0 ≤ (M1 15 10) ∧ (M1 15 10) < 14 by omega) ?_
                show xa_C (xl_I b) A h0 _ 25 [(2, 1, 0, 0, 0), (0, 0, 0, 14, w)] (xa_up (xa_up (xa_up M1 21 (M1 15 10) w) 22 (M1 15 10) (0 - 1)) 23 (M1 15 10) (M1 2 w)) _
                refine cx_25_1 (show 0 ≤ w ∧ w < 14 by omega) ?_
                show xa_C (xl_I b) A h0 _ 18 [(2, 24, 0, 0, 0), (0, 0, (-2147483648), 2147483647, M1 15 10), (0, 0, 0, 400, M1 3 w)] (xa_up (xa_up (xa_up M1 21 (M1 15 10) w) 22 (M1 15 10) (0 - 1)) 23 (M1 15 10) (M1 2 w)) _
                refine cx_18_24 (show 0 ≤ (M1 15 10) ∧ (M1 15 10) < 14 by omega) (show 0 ≤ (M1 3 w) ∧ (M1 3 w) ≤ 400 by omega) ?_
                show Q 21 [(3, (0, 0, 1, 15, w + 1)), (5, (0, 0, 0, 1, r108)), (4, (0, 0, 0, 1, r107)), (1, (2, 1, 0, 0, 0)), (0, (2, 15, 0, 0, 0))] [] (xa_up (xa_up (xa_up (xa_up (xa_up M1 21 (M1 15 10) w) 22 (M1 15 10) (0 - 1)) 23 (M1 15 10) (M1 2 w)) 24 (M1 15 10) (M1 3 w)) 15 10 (xa_w32 ((M1 15 10) + 1)))
                have g15 : xa_w32 ((M1 15 10) + 1) = M1 15 10 + 1 := xa_w32_id (by omega) (by omega)
                have q15 : (xa_up (xa_up (xa_up (xa_up (xa_up M1 21 (M1 15 10) w) 22 (M1 15 10) (0 - 1)) 23 (M1 15 10) (M1 2 w)) 24 (M1 15 10) (M1 3 w)) 15 10 (xa_w32 ((M1 15 10) + 1))) 15 10 = M1 15 10 + 1 := (xa_up_eq).trans g15
                refine hgo.2.1 21 _ [(3, (0, 0, 0, 14, w + 1)), (1, (2, 1, 0, 0, 0)), (0, (2, 15, 0, 0, 0))] _ _ (xa_subI rfl rfl (fun _ _ _ _ => by omega) (xa_subR rfl (xa_subR rfl (xa_sub0)))) ?_
                exact ih (w + 1) (xa_up (xa_up (xa_up (xa_up (xa_up M1 21 (M1 15 10) w) 22 (M1 15 10) (0 - 1)) 23 (M1 15 10) (M1 2 w)) 24 (M1 15 10) (M1 3 w)) 15 10 (xa_w32 ((M1 15 10) + 1))) (by omega) (fun q j h1 h2 => (xa_up_ne (by omega)).trans ((xa_up_ne (by omega)).trans ((xa_up_ne (by omega)).trans ((xa_up_ne (by omega)).trans ((xa_up_ne (by omega)).trans (hk q j h1 h2)))))) (by
                  rw [q15]
                  exact wf_Wy w1.1 hW (by omega) (fun j => by
                    by_cases e : j = M1 15 10
                    · rw [if_pos e, e]
                      exact ((xa_up_ne (by omega)).trans ((xa_up_ne (by omega)).trans ((xa_up_ne (by omega)).trans ((xa_up_ne (by omega)).trans (xa_up_eq)))))
                    · rw [if_neg e]
                      exact (xa_up_ne (by omega)).trans ((xa_up_ne (by omega)).trans ((xa_up_ne (by omega)).trans ((xa_up_ne (by omega)).trans (xa_up_ne (by omega)))))) (fun j => by
                    by_cases e : j = M1 15 10
                    · rw [if_pos e, e]
                      exact ((xa_up_ne (by omega)).trans ((xa_up_ne (by omega)).trans ((xa_up_ne (by omega)).trans (xa_up_eq)))).trans (show (0 - 1 : Int) = wf_b (M2 19) (F 0) w - wf_b (M2 20) (F 0) w by omega)
                    · rw [if_neg e]
                      exact (xa_up_ne (by omega)).trans ((xa_up_ne (by omega)).trans ((xa_up_ne (by omega)).trans ((xa_up_ne (by omega)).trans (xa_up_ne (by omega)))))) (fun j => by
                    by_cases e : j = M1 15 10
                    · rw [if_pos e, e]
                      exact ((xa_up_ne (by omega)).trans ((xa_up_ne (by omega)).trans (xa_up_eq))).trans e2
                    · rw [if_neg e]
                      exact (xa_up_ne (by omega)).trans ((xa_up_ne (by omega)).trans ((xa_up_ne (by omega)).trans ((xa_up_ne (by omega)).trans (xa_up_ne (by omega)))))) (fun j => by
                    by_cases e : j = M1 15 10
                    · rw [if_pos e, e]
                      exact ((xa_up_ne (by omega)).trans (xa_up_eq)).trans e3
                    · rw [if_neg e]
                      exact (xa_up_ne (by omega)).trans ((xa_up_ne (by omega)).trans ((xa_up_ne (by omega)).trans ((xa_up_ne (by omega)).trans (xa_up_ne (by omega))))))) (by omega)
            · intro (c8 : ¬ r107 = 0)
              exfalso
              omega
  refine hgo.1 16 [21] 0 _ _ _ ?_
  show xa_C (xl_I b) A h0 _ 75 [(2, 16, 0, 0, 0), (2, 1, 0, 0, 0), (0, 0, (-2147483648), 2147483647, X)] (xa_up M 15 10 0) _
  refine cx_75s hL hX hn hr ha hF9 ?_
  intro r110 M109 (i1 : F 0 < 99 → r110 = 1 ∧ M109 16 4 = F 0 ∧ (wp_Q (M 1 10) (M 5) (M 7) (M 8) F (F 0) (M109 18) (M109 19) (M109 20) (F 0))) (i2 : 99 ≤ F 0 → r110 = 0) (i3 : ∀ q j, ¬ q = 16 → ¬ q = 17 → ¬ q = 18 → ¬ q = 19 → ¬ q = 20 → M109 q j = (xa_up M 15 10 0) q j)
  refine And.intro ?_ ?_
  · intro (c4 : ¬ r110 = 0)
    show Q 21 [(3, (0, 0, 0, 0, 0)), (0, (2, 15, 0, 0, 0)), (1, (2, 1, 0, 0, 0)), (2, (0, 0, (-2147483648), 2147483647, X))] [] M109
    have h99 : F 0 < 99 := by
      by_cases c : F 0 < 99
      · exact c
      · have := i2 (by omega)
        omega
    have h16 := (i1 h99).2.1
    have hq2 := (i1 h99).2.2
    have hk2 : ∀ q j, ¬ (15 ≤ q ∧ q ≤ 24) → M109 q j = M q j := fun q j h => (i3 q j (by omega) (by omega) (by omega) (by omega) (by omega)).trans (xa_up_ne (by omega))
    have hz : M109 15 10 = 0 := (i3 15 10 (by decide) (by decide) (by decide) (by decide) (by decide)).trans xa_up_eq
    refine hgo.2.1 21 _ [(3, (0, 0, 0, 14, 0)), (1, (2, 1, 0, 0, 0)), (0, (2, 15, 0, 0, 0))] _ _ (xa_subI rfl rfl (fun _ _ _ _ => by omega) (xa_subR rfl (xa_subR rfl (xa_sub0)))) ?_
    exact loop M109 h99 h16 hq2 hk2 15 0 M109 (by omega) (fun _ _ _ _ => rfl) (wf_W0 hz) (by omega)
  · intro (c4 : r110 = 0)
    show xa_wk post (some (0, 0, 0, 0, 0)) M109
    exact xa_wkI 0 rfl (fun _ _ => by omega) (k 0 _ (fun h => by have := (i1 h).1; omega) (fun _ => rfl) (fun q j h => (i3 q j (by omega) (by omega) (by omega) (by omega) (by omega)).trans (xa_up_ne (by omega))))
