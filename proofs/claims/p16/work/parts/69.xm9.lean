-- two kept builds (made by wip/p24/xa/xm9.py)
set_option maxRecDepth 20000
theorem ct_isLeft {A : Nat → Nat} {h0 : g_H} {d : Nat} {M : xa_M} {post : Option xa_V → xa_M → Prop} {l1 u1 l2 u2 l3 u3 l4 u4 : Int} {l a b c : Int} (hl0 : 0 ≤ l) (hl1 : l ≤ 11) (k : ∀ r : Int, (r = 0 ∨ r = 1) → (r = 1 ↔ (M 100 l = a ∧ M 101 l = b ∧ M 102 l ≤ c ∧ c ≤ M 103 l)) → post (some (0, 0, 0, 1, r)) M) : xa_C xm_I A h0 (d + 2) 292 [(2, 60, 0, 0, 0), (0, 0, l1, u1, l), (0, 0, l2, u2, a), (0, 0, l3, u3, b), (0, 0, l4, u4, c)] M post := by
  refine xa_C_arg [(2, 60, 0, 0, 0), (0, 0, 0, 11, l), (0, 0, (-2147483648), 2147483647, a), (0, 0, (-2147483648), 2147483647, b), (0, 0, (-2147483648), 2147483647, c)] (xa_svR (xa_svI (fun _ _ _ _ => by omega) (xa_svI (fun _ _ _ _ => by omega) (xa_svI (fun _ _ _ _ => by omega) (xa_svI (fun _ _ _ _ => by omega) xa_sv0))))) (xa_C_wk ?_)
  refine xa_meth (Q0 := (5, 2, false, 0, 0, 12)) (by decide +kernel) ⟨rfl, rfl⟩ (full := s_c_292) rfl rfl ?_
  intro hM hv Q hgo
  refine hgo.1 30 [] 0 _ _ _ ?_
  refine And.intro ?_ ?_
  · intro (c1 : ¬ (M 100 l) = a)
    show xa_wk post (some (0, 0, 0, 0, 0)) M
    exact xa_wkI 0 rfl (fun _ _ => by omega) (k 0 (by omega) (by omega))
  · intro (c1 : (M 100 l) = a)
    refine And.intro ?_ ?_
    · intro (c2 : ¬ (M 101 l) = b)
      show xa_wk post (some (0, 0, 0, 0, 0)) M
      exact xa_wkI 0 rfl (fun _ _ => by omega) (k 0 (by omega) (by omega))
    · intro (c2 : (M 101 l) = b)
      show xa_C xm_I A h0 _ 214 [(0, 0, (-2147483648), 2147483647, c), (0, 0, (-2147483648), 2147483647, M 102 l), (0, 0, (-2147483648), 2147483647, M 103 l)] M _
      refine ct_in ?_ ?_
      · intro (i3 : (M 102 l) ≤ c ∧ c ≤ (M 103 l))
        show xa_wk post (some (0, 0, 1, 1, 1)) M
        exact xa_wkI 1 rfl (fun _ _ => by omega) (k 1 (by omega) (by omega))
      · intro (i3 : ¬ ((M 102 l) ≤ c ∧ c ≤ (M 103 l)))
        show xa_wk post (some (0, 0, 0, 0, 0)) M
        exact xa_wkI 0 rfl (fun _ _ => by omega) (k 0 (by omega) (by omega))
theorem ct_ofBuild {A : Nat → Nat} {h0 : g_H} {d : Nat} {M : xa_M} {post : Option xa_V → xa_M → Prop} {l1 u1 l2 u2 l3 u3 : Int} {a b c : Int} (ha0 : 0 ≤ a) (ha1 : a ≤ 3) (hb0 : 0 ≤ b) (hb1 : b ≤ 13) (hc0 : 2 ≤ c) (hc1 : c ≤ 4) (k : post (some (0, 0, -2147483648, 2147483647, M 104 (124 * a + 1 + 5 * b + c))) M) : xa_C xm_I A h0 (d + 1) 298 [(2, 60, 0, 0, 0), (0, 0, l1, u1, a), (0, 0, l2, u2, b), (0, 0, l3, u3, c)] M post := by
  refine xa_C_arg [(2, 60, 0, 0, 0), (0, 0, 0, 3, a), (0, 0, 0, 13, b), (0, 0, 2, 4, c)] (xa_svR (xa_svI (fun _ _ _ _ => by omega) (xa_svI (fun _ _ _ _ => by omega) (xa_svI (fun _ _ _ _ => by omega) xa_sv0)))) ?_
  refine xa_meth (Q0 := (4, 1, false, 0, 0, 12)) (by decide +kernel) ⟨rfl, rfl⟩ (full := s_c_298) rfl rfl ?_
  intro hM hv Q hgo
  refine hgo.1 19 [] 0 _ _ _ ?_
  show post (some (0, 0, (-2147483648), 2147483647, M 104 ((((124 * a) + 1) + (5 * b)) + c))) M
  exact k
theorem ct_brokenBy {A : Nat → Nat} {h0 : g_H} {d : Nat} {M : xa_M} {post : Option xa_V → xa_M → Prop} {l1 u1 : Int} {a : Int} (ha0 : 0 ≤ a) (ha1 : a ≤ 3) (hb : xm_bld M a) (k : ∀ r : Int, post (some (0, 0, -2147483648, 2147483647, r)) M) : xa_C xm_I A h0 (d + 3) 299 [(2, 60, 0, 0, 0), (0, 0, l1, u1, a)] M post := by
  refine xa_C_arg [(2, 60, 0, 0, 0), (0, 0, 0, 3, a)] (xa_svR (xa_svI (fun _ _ _ _ => by omega) xa_sv0)) ?_
  refine xa_meth (Q0 := (6, 1, false, 0, 0, 12)) (by decide +kernel) ⟨rfl, rfl⟩ (full := s_c_299) rfl rfl ?_
  intro hM hv Q hgo
  have hbb := hb.1
  have b61 := xm_f61 hM
  have loopO : ∀ (n : Nat) (l b : Int), 0 ≤ l → l ≤ 12 → 12 - l < (n : Int) → Q 4 [(3, (0, 0, 0, 12, l)), (2, (0, 0, (-2147483648), 2147483647, b)), (1, (0, 0, 0, 3, a)), (0, (2, 60, 0, 0, 0))] [] M := by
    intro n
    induction n with
    | zero => intro l b h1 h2 hms; omega
    | succ n ihO =>
      intro l b h1 h2 hms
      refine hgo.1 13 [4, 18] 4 _ _ _ ?_
      refine And.intro ?_ ?_
      · intro (c1 : (M 60 61) ≤ l)
        show post (some (0, 0, (-2147483648), 2147483647, b)) M
        exact k _
      · intro (c1 : l < (M 60 61))
        have loopI : ∀ (n : Nat) (w z : Int), 0 ≤ w → w ≤ 14 → 14 - w < (n : Int) → Q 18 [(5, (0, 0, 0, 14, w)), (4, (0, 0, 0, 1, z)), (3, (0, 0, 0, 11, l)), (2, (0, 0, (-2147483648), 2147483647, b)), (1, (0, 0, 0, 3, a)), (0, (2, 60, 0, 0, 0))] [] M := by
          intro n
          induction n with
          | zero => intro w z h1 h2 hms; omega
          | succ n ih =>
            intro w z h1 h2 hms
            refine hgo.1 39 [4, 18] 18 _ _ _ ?_
            refine And.intro ?_ ?_
            · intro (c1 : (M 104 (124 * a)) ≤ w)
              refine And.intro ?_ ?_
              · intro (c2 : z = 0)
                show Q 4 [(3, (0, 0, 1, 12, l + 1)), (2, (0, 0, (-2147483648), 2147483647, xa_ib 4 b (xa_ib 6 1 l))), (5, (0, 0, 0, 14, w)), (4, (0, 0, 0, 1, z)), (1, (0, 0, 0, 3, a)), (0, (2, 60, 0, 0, 0))] [] M
                refine hgo.2.1 4 _ [(3, (0, 0, 0, 12, l + 1)), (2, (0, 0, (-2147483648), 2147483647, xa_ib 4 b (xa_ib 6 1 l))), (1, (0, 0, 0, 3, a)), (0, (2, 60, 0, 0, 0))] _ _ (xa_subI rfl rfl (fun _ _ _ _ => by omega) (xa_subI rfl rfl (fun _ _ _ _ => by omega) (xa_subI rfl rfl (fun _ _ _ _ => by omega) (xa_subR rfl xa_sub0)))) ?_
                exact ihO (l + 1) (xa_ib 4 b (xa_ib 6 1 l)) (by omega) (by omega) (by omega)
              · intro (c2 : ¬ z = 0)
                show Q 4 [(3, (0, 0, 1, 12, l + 1)), (2, (0, 0, (-2147483648), 2147483647, xa_ib 4 b 0)), (5, (0, 0, 0, 14, w)), (4, (0, 0, 0, 1, z)), (1, (0, 0, 0, 3, a)), (0, (2, 60, 0, 0, 0))] [] M
                refine hgo.2.1 4 _ [(3, (0, 0, 0, 12, l + 1)), (2, (0, 0, (-2147483648), 2147483647, xa_ib 4 b 0)), (1, (0, 0, 0, 3, a)), (0, (2, 60, 0, 0, 0))] _ _ (xa_subI rfl rfl (fun _ _ _ _ => by omega) (xa_subI rfl rfl (fun _ _ _ _ => by omega) (xa_subI rfl rfl (fun _ _ _ _ => by omega) (xa_subR rfl xa_sub0)))) ?_
                exact ihO (l + 1) (xa_ib 4 b 0) (by omega) (by omega) (by omega)
            · intro (c1 : w < (M 104 (124 * a)))
              refine And.intro ?_ ?_
              · intro (c3 : ¬ z = 0)
                show Q 18 [(5, (0, 0, 1, 15, w + 1)), (4, (0, 0, 1, 1, 1)), (3, (0, 0, 0, 11, l)), (2, (0, 0, (-2147483648), 2147483647, b)), (1, (0, 0, 0, 3, a)), (0, (2, 60, 0, 0, 0))] [] M
                refine hgo.2.1 18 _ [(5, (0, 0, 0, 14, w + 1)), (4, (0, 0, 0, 1, 1)), (3, (0, 0, 0, 11, l)), (2, (0, 0, (-2147483648), 2147483647, b)), (1, (0, 0, 0, 3, a)), (0, (2, 60, 0, 0, 0))] _ _ (xa_subI rfl rfl (fun _ _ _ _ => by omega) (xa_subI rfl rfl (fun _ _ _ _ => by omega) (xa_subI rfl rfl (fun _ _ _ _ => by omega) (xa_subI rfl rfl (fun _ _ _ _ => by omega) (xa_subI rfl rfl (fun _ _ _ _ => by omega) (xa_subR rfl xa_sub0)))))) ?_
                exact ih (w + 1) 1 (by omega) (by omega) (by omega)
              · intro (c3 : z = 0)
                show xa_C xm_I A h0 _ 298 [(2, 60, 0, 0, 0), (0, 0, 0, 3, a), (0, 0, 0, 14, w), (0, 0, 3, 3, 3)] M _
                refine ct_ofBuild (by omega) (by omega) (by omega) (by omega) (by omega) (by omega) ?_
                show xa_C xm_I A h0 _ 298 [(2, 60, 0, 0, 0), (0, 0, 0, 3, a), (0, 0, 0, 14, w), (0, 0, 4, 4, 4)] M _
                refine ct_ofBuild (by omega) (by omega) (by omega) (by omega) (by omega) (by omega) ?_
                show xa_C xm_I A h0 _ 298 [(2, 60, 0, 0, 0), (0, 0, 0, 3, a), (0, 0, 0, 14, w), (0, 0, 2, 2, 2)] M _
                refine ct_ofBuild (by omega) (by omega) (by omega) (by omega) (by omega) (by omega) ?_
                show xa_C xm_I A h0 _ 292 [(2, 60, 0, 0, 0), (0, 0, 0, 11, l), (0, 0, (-2147483648), 2147483647, M 104 (124 * a + 1 + 5 * w + 3)), (0, 0, (-2147483648), 2147483647, M 104 (124 * a + 1 + 5 * w + 4)), (0, 0, (-2147483648), 2147483647, M 104 (124 * a + 1 + 5 * w + 2))] M _
                refine ct_isLeft (by omega) (by omega) (fun r4 zr4 er4 => ?_)
                refine And.intro ?_ ?_
                · intro (c5 : r4 = 0)
                  show Q 18 [(5, (0, 0, 1, 15, w + 1)), (4, (0, 0, 0, 0, 0)), (3, (0, 0, 0, 11, l)), (2, (0, 0, (-2147483648), 2147483647, b)), (1, (0, 0, 0, 3, a)), (0, (2, 60, 0, 0, 0))] [] M
                  refine hgo.2.1 18 _ [(5, (0, 0, 0, 14, w + 1)), (4, (0, 0, 0, 1, 0)), (3, (0, 0, 0, 11, l)), (2, (0, 0, (-2147483648), 2147483647, b)), (1, (0, 0, 0, 3, a)), (0, (2, 60, 0, 0, 0))] _ _ (xa_subI rfl rfl (fun _ _ _ _ => by omega) (xa_subI rfl rfl (fun _ _ _ _ => by omega) (xa_subI rfl rfl (fun _ _ _ _ => by omega) (xa_subI rfl rfl (fun _ _ _ _ => by omega) (xa_subI rfl rfl (fun _ _ _ _ => by omega) (xa_subR rfl xa_sub0)))))) ?_
                  exact ih (w + 1) 0 (by omega) (by omega) (by omega)
                · intro (c5 : ¬ r4 = 0)
                  show Q 18 [(5, (0, 0, 1, 15, w + 1)), (4, (0, 0, 1, 1, 1)), (3, (0, 0, 0, 11, l)), (2, (0, 0, (-2147483648), 2147483647, b)), (1, (0, 0, 0, 3, a)), (0, (2, 60, 0, 0, 0))] [] M
                  refine hgo.2.1 18 _ [(5, (0, 0, 0, 14, w + 1)), (4, (0, 0, 0, 1, 1)), (3, (0, 0, 0, 11, l)), (2, (0, 0, (-2147483648), 2147483647, b)), (1, (0, 0, 0, 3, a)), (0, (2, 60, 0, 0, 0))] _ _ (xa_subI rfl rfl (fun _ _ _ _ => by omega) (xa_subI rfl rfl (fun _ _ _ _ => by omega) (xa_subI rfl rfl (fun _ _ _ _ => by omega) (xa_subI rfl rfl (fun _ _ _ _ => by omega) (xa_subI rfl rfl (fun _ _ _ _ => by omega) (xa_subR rfl xa_sub0)))))) ?_
                  exact ih (w + 1) 1 (by omega) (by omega) (by omega)
        show Q 18 [(5, (0, 0, 0, 0, 0)), (4, (0, 0, 0, 0, 0)), (3, (0, 0, 0, 12, l)), (2, (0, 0, (-2147483648), 2147483647, b)), (1, (0, 0, 0, 3, a)), (0, (2, 60, 0, 0, 0))] [] M
        refine hgo.2.1 18 _ [(5, (0, 0, 0, 14, 0)), (4, (0, 0, 0, 1, 0)), (3, (0, 0, 0, 11, l)), (2, (0, 0, (-2147483648), 2147483647, b)), (1, (0, 0, 0, 3, a)), (0, (2, 60, 0, 0, 0))] _ _ (xa_subI rfl rfl (fun _ _ _ _ => by omega) (xa_subI rfl rfl (fun _ _ _ _ => by omega) (xa_subI rfl rfl (fun _ _ _ _ => by omega) (xa_subI rfl rfl (fun _ _ _ _ => by omega) (xa_subI rfl rfl (fun _ _ _ _ => by omega) (xa_subR rfl xa_sub0)))))) ?_
        exact loopI 15 0 0 (by omega) (by omega) (by omega)
  refine hgo.1 9 [4] 0 _ _ _ ?_
  show Q 4 [(3, (0, 0, 0, 0, 0)), (2, (0, 0, 0, 0, 0)), (0, (2, 60, 0, 0, 0)), (1, (0, 0, 0, 3, a))] [] M
  refine hgo.2.1 4 _ [(3, (0, 0, 0, 12, 0)), (2, (0, 0, (-2147483648), 2147483647, 0)), (1, (0, 0, 0, 3, a)), (0, (2, 60, 0, 0, 0))] _ _ (xa_subI rfl rfl (fun _ _ _ _ => by omega) (xa_subI rfl rfl (fun _ _ _ _ => by omega) (xa_subI rfl rfl (fun _ _ _ _ => by omega) (xa_subR rfl xa_sub0)))) ?_
  exact loopO 13 0 0 (by omega) (by omega) (by omega)
theorem ms_unlike {A : Nat → Nat} {h0 : g_H} {d : Nat} {M : xa_M} {post : Option xa_V → xa_M → Prop} {l1 u1 l2 u2 : Int} {a b : Int} (hI : xm_Inv M) (k : ∀ (o : Option xa_V) (M1 : xa_M), xm_cor M M1 → post o M1) : xa_C xm_I A h0 (d + 5) 297 [(2, 60, 0, 0, 0), (0, 0, l1, u1, a), (0, 0, l2, u2, b)] M post := by
  refine xa_C_arg [(2, 60, 0, 0, 0), (0, 0, (-2147483648), 2147483647, a), (0, 0, (-2147483648), 2147483647, b)] (xa_svR (xa_svI (fun _ _ _ _ => by omega) (xa_svI (fun _ _ _ _ => by omega) xa_sv0))) ?_
  refine xa_meth (Q0 := (9, 1, false, 0, 0, 12)) (by decide +kernel) ⟨rfl, rfl⟩ (full := s_c_297) rfl rfl ?_
  intro hM hv Q hgo
  have t105a := fun h0 h1 => xm_t105 hM a h0 h1
  have t105b := fun h0 h1 => xm_t105 hM b h0 h1
  have key : 0 ≤ a → a ≤ 3 → 0 ≤ b → b ≤ 3 → M 105 a = 1 → M 105 b = 1 → Q 48 [(4, (0, 0, 0, 14, 0)), (3, (0, 0, (-2147483648), 2147483647, 0)), (2, (0, 0, 0, 3, b)), (1, (0, 0, 0, 3, a)), (0, (2, 60, 0, 0, 0))] [] (xa_up M 60 21 0) := by
    intro a0 a1 b0 b1 e1 e2
    have ba := hI.2.2.2.2 a a0 (by omega) e1
    have bb := hI.2.2.2.2 b b0 (by omega) e2
    have loopI : ∀ (x y c w : Int), 0 ≤ w → w ≤ 13 → (∀ (w2 c2 : Int), 0 ≤ w2 → w2 = w + 1 → Q 48 [(4, (0, 0, 0, 14, w2)), (3, (0, 0, (-2147483648), 2147483647, c2)), (2, (0, 0, 0, 3, b)), (1, (0, 0, 0, 3, a)), (0, (2, 60, 0, 0, 0))] [] (xa_up M 60 21 0)) → ∀ (n : Nat) (i z : Int), 2 ≤ i → i ≤ 5 → 5 - i < (n : Int) → Q 114 [(8, (0, 0, 2, 5, i)), (7, (0, 0, 0, 1, z)), (6, (0, 0, 0, 1, y)), (5, (0, 0, 0, 1, x)), (4, (0, 0, 0, 13, w)), (3, (0, 0, (-2147483648), 2147483647, c)), (2, (0, 0, 0, 3, b)), (1, (0, 0, 0, 3, a)), (0, (2, 60, 0, 0, 0))] [] (xa_up M 60 21 0) := by
      intro x y c w w0 w1 hout n
      induction n with
      | zero => intro i z h1 h2 hms; omega
      | succ n ih =>
        intro i z h1 h2 hms
        refine hgo.1 30 [48, 114] 114 _ _ _ ?_
        refine And.intro ?_ ?_
        · intro (c1 : 5 ≤ i)
          refine And.intro ?_ ?_
          · intro (c2 : z = 0)
            show Q 48 [(4, (0, 0, 1, 14, w + 1)), (3, (0, 0, (-2147483648), 2147483647, xa_ib 4 c 0)), (8, (0, 0, 2, 5, i)), (7, (0, 0, 0, 1, z)), (6, (0, 0, 0, 1, y)), (5, (0, 0, 0, 1, x)), (2, (0, 0, 0, 3, b)), (1, (0, 0, 0, 3, a)), (0, (2, 60, 0, 0, 0))] [] (xa_up M 60 21 0)
            refine hgo.2.1 48 _ [(4, (0, 0, 0, 14, w + 1)), (3, (0, 0, (-2147483648), 2147483647, xa_ib 4 c 0)), (2, (0, 0, 0, 3, b)), (1, (0, 0, 0, 3, a)), (0, (2, 60, 0, 0, 0))] _ _ (xa_subI rfl rfl (fun _ _ _ _ => by omega) (xa_subI rfl rfl (fun _ _ _ _ => by omega) (xa_subI rfl rfl (fun _ _ _ _ => by omega) (xa_subI rfl rfl (fun _ _ _ _ => by omega) (xa_subR rfl xa_sub0))))) ?_
            exact hout (w + 1) (xa_ib 4 c 0) (by omega) (by omega)
          · intro (c2 : ¬ z = 0)
            show Q 48 [(4, (0, 0, 1, 14, w + 1)), (3, (0, 0, (-2147483648), 2147483647, xa_ib 4 c (xa_ib 6 1 w))), (8, (0, 0, 2, 5, i)), (7, (0, 0, 0, 1, z)), (6, (0, 0, 0, 1, y)), (5, (0, 0, 0, 1, x)), (2, (0, 0, 0, 3, b)), (1, (0, 0, 0, 3, a)), (0, (2, 60, 0, 0, 0))] [] (xa_up M 60 21 0)
            refine hgo.2.1 48 _ [(4, (0, 0, 0, 14, w + 1)), (3, (0, 0, (-2147483648), 2147483647, xa_ib 4 c (xa_ib 6 1 w))), (2, (0, 0, 0, 3, b)), (1, (0, 0, 0, 3, a)), (0, (2, 60, 0, 0, 0))] _ _ (xa_subI rfl rfl (fun _ _ _ _ => by omega) (xa_subI rfl rfl (fun _ _ _ _ => by omega) (xa_subI rfl rfl (fun _ _ _ _ => by omega) (xa_subI rfl rfl (fun _ _ _ _ => by omega) (xa_subR rfl xa_sub0))))) ?_
            exact hout (w + 1) (xa_ib 4 c (xa_ib 6 1 w)) (by omega) (by omega)
        · intro (c1 : i < 5)
          refine And.intro ?_ ?_
          · intro (c3 : x = 0)
            refine And.intro ?_ ?_
            · intro (c4 : z = 0)
              show Q 48 [(4, (0, 0, 1, 14, w + 1)), (3, (0, 0, (-2147483648), 2147483647, xa_ib 4 c 0)), (8, (0, 0, 2, 5, i)), (7, (0, 0, 0, 1, z)), (6, (0, 0, 0, 1, y)), (5, (0, 0, 0, 1, x)), (2, (0, 0, 0, 3, b)), (1, (0, 0, 0, 3, a)), (0, (2, 60, 0, 0, 0))] [] (xa_up M 60 21 0)
              refine hgo.2.1 48 _ [(4, (0, 0, 0, 14, w + 1)), (3, (0, 0, (-2147483648), 2147483647, xa_ib 4 c 0)), (2, (0, 0, 0, 3, b)), (1, (0, 0, 0, 3, a)), (0, (2, 60, 0, 0, 0))] _ _ (xa_subI rfl rfl (fun _ _ _ _ => by omega) (xa_subI rfl rfl (fun _ _ _ _ => by omega) (xa_subI rfl rfl (fun _ _ _ _ => by omega) (xa_subI rfl rfl (fun _ _ _ _ => by omega) (xa_subR rfl xa_sub0))))) ?_
              exact hout (w + 1) (xa_ib 4 c 0) (by omega) (by omega)
            · intro (c4 : ¬ z = 0)
              show Q 48 [(4, (0, 0, 1, 14, w + 1)), (3, (0, 0, (-2147483648), 2147483647, xa_ib 4 c (xa_ib 6 1 w))), (8, (0, 0, 2, 5, i)), (7, (0, 0, 0, 1, z)), (6, (0, 0, 0, 1, y)), (5, (0, 0, 0, 1, x)), (2, (0, 0, 0, 3, b)), (1, (0, 0, 0, 3, a)), (0, (2, 60, 0, 0, 0))] [] (xa_up M 60 21 0)
              refine hgo.2.1 48 _ [(4, (0, 0, 0, 14, w + 1)), (3, (0, 0, (-2147483648), 2147483647, xa_ib 4 c (xa_ib 6 1 w))), (2, (0, 0, 0, 3, b)), (1, (0, 0, 0, 3, a)), (0, (2, 60, 0, 0, 0))] _ _ (xa_subI rfl rfl (fun _ _ _ _ => by omega) (xa_subI rfl rfl (fun _ _ _ _ => by omega) (xa_subI rfl rfl (fun _ _ _ _ => by omega) (xa_subI rfl rfl (fun _ _ _ _ => by omega) (xa_subR rfl xa_sub0))))) ?_
              exact hout (w + 1) (xa_ib 4 c (xa_ib 6 1 w)) (by omega) (by omega)
          · intro (c3 : ¬ x = 0)
            refine And.intro ?_ ?_
            · intro (c5 : y = 0)
              refine And.intro ?_ ?_
              · intro (c6 : z = 0)
                show Q 48 [(4, (0, 0, 1, 14, w + 1)), (3, (0, 0, (-2147483648), 2147483647, xa_ib 4 c 0)), (8, (0, 0, 2, 5, i)), (7, (0, 0, 0, 1, z)), (6, (0, 0, 0, 1, y)), (5, (0, 0, 0, 1, x)), (2, (0, 0, 0, 3, b)), (1, (0, 0, 0, 3, a)), (0, (2, 60, 0, 0, 0))] [] (xa_up M 60 21 0)
                refine hgo.2.1 48 _ [(4, (0, 0, 0, 14, w + 1)), (3, (0, 0, (-2147483648), 2147483647, xa_ib 4 c 0)), (2, (0, 0, 0, 3, b)), (1, (0, 0, 0, 3, a)), (0, (2, 60, 0, 0, 0))] _ _ (xa_subI rfl rfl (fun _ _ _ _ => by omega) (xa_subI rfl rfl (fun _ _ _ _ => by omega) (xa_subI rfl rfl (fun _ _ _ _ => by omega) (xa_subI rfl rfl (fun _ _ _ _ => by omega) (xa_subR rfl xa_sub0))))) ?_
                exact hout (w + 1) (xa_ib 4 c 0) (by omega) (by omega)
              · intro (c6 : ¬ z = 0)
                show Q 48 [(4, (0, 0, 1, 14, w + 1)), (3, (0, 0, (-2147483648), 2147483647, xa_ib 4 c (xa_ib 6 1 w))), (8, (0, 0, 2, 5, i)), (7, (0, 0, 0, 1, z)), (6, (0, 0, 0, 1, y)), (5, (0, 0, 0, 1, x)), (2, (0, 0, 0, 3, b)), (1, (0, 0, 0, 3, a)), (0, (2, 60, 0, 0, 0))] [] (xa_up M 60 21 0)
                refine hgo.2.1 48 _ [(4, (0, 0, 0, 14, w + 1)), (3, (0, 0, (-2147483648), 2147483647, xa_ib 4 c (xa_ib 6 1 w))), (2, (0, 0, 0, 3, b)), (1, (0, 0, 0, 3, a)), (0, (2, 60, 0, 0, 0))] _ _ (xa_subI rfl rfl (fun _ _ _ _ => by omega) (xa_subI rfl rfl (fun _ _ _ _ => by omega) (xa_subI rfl rfl (fun _ _ _ _ => by omega) (xa_subI rfl rfl (fun _ _ _ _ => by omega) (xa_subR rfl xa_sub0))))) ?_
                exact hout (w + 1) (xa_ib 4 c (xa_ib 6 1 w)) (by omega) (by omega)
            · intro (c5 : ¬ y = 0)
              refine And.intro ?_ ?_
              · intro (c7 : ¬ z = 0)
                show Q 114 [(8, (0, 0, 3, 6, i + 1)), (7, (0, 0, 1, 1, 1)), (6, (0, 0, 0, 1, y)), (5, (0, 0, 0, 1, x)), (4, (0, 0, 0, 13, w)), (3, (0, 0, (-2147483648), 2147483647, c)), (2, (0, 0, 0, 3, b)), (1, (0, 0, 0, 3, a)), (0, (2, 60, 0, 0, 0))] [] (xa_up M 60 21 0)
                refine hgo.2.1 114 _ [(8, (0, 0, 2, 5, i + 1)), (7, (0, 0, 0, 1, 1)), (6, (0, 0, 0, 1, y)), (5, (0, 0, 0, 1, x)), (4, (0, 0, 0, 13, w)), (3, (0, 0, (-2147483648), 2147483647, c)), (2, (0, 0, 0, 3, b)), (1, (0, 0, 0, 3, a)), (0, (2, 60, 0, 0, 0))] _ _ (xa_subI rfl rfl (fun _ _ _ _ => by omega) (xa_subI rfl rfl (fun _ _ _ _ => by omega) (xa_subI rfl rfl (fun _ _ _ _ => by omega) (xa_subI rfl rfl (fun _ _ _ _ => by omega) (xa_subI rfl rfl (fun _ _ _ _ => by omega) (xa_subI rfl rfl (fun _ _ _ _ => by omega) (xa_subI rfl rfl (fun _ _ _ _ => by omega) (xa_subI rfl rfl (fun _ _ _ _ => by omega) (xa_subR rfl xa_sub0))))))))) ?_
                exact ih (i + 1) 1 (by omega) (by omega) (by omega)
              · intro (c7 : z = 0)
                show xa_C xm_I A h0 _ 298 [(2, 60, 0, 0, 0), (0, 0, 0, 3, a), (0, 0, 0, 13, w), (0, 0, 2, 5, i)] (xa_up M 60 21 0) _
                refine ct_ofBuild (by omega) (by omega) (by omega) (by omega) (by omega) (by omega) ?_
                show xa_C xm_I A h0 _ 298 [(2, 60, 0, 0, 0), (0, 0, 0, 3, b), (0, 0, 0, 13, w), (0, 0, 2, 5, i)] (xa_up M 60 21 0) _
                refine ct_ofBuild (by omega) (by omega) (by omega) (by omega) (by omega) (by omega) ?_
                refine And.intro ?_ ?_
                · intro (c8 : (M 104 (124 * a + 1 + 5 * w + i)) = (M 104 (124 * b + 1 + 5 * w + i)))
                  show Q 114 [(8, (0, 0, 3, 6, i + 1)), (7, (0, 0, 0, 0, 0)), (6, (0, 0, 0, 1, y)), (5, (0, 0, 0, 1, x)), (4, (0, 0, 0, 13, w)), (3, (0, 0, (-2147483648), 2147483647, c)), (2, (0, 0, 0, 3, b)), (1, (0, 0, 0, 3, a)), (0, (2, 60, 0, 0, 0))] [] (xa_up M 60 21 0)
                  refine hgo.2.1 114 _ [(8, (0, 0, 2, 5, i + 1)), (7, (0, 0, 0, 1, 0)), (6, (0, 0, 0, 1, y)), (5, (0, 0, 0, 1, x)), (4, (0, 0, 0, 13, w)), (3, (0, 0, (-2147483648), 2147483647, c)), (2, (0, 0, 0, 3, b)), (1, (0, 0, 0, 3, a)), (0, (2, 60, 0, 0, 0))] _ _ (xa_subI rfl rfl (fun _ _ _ _ => by omega) (xa_subI rfl rfl (fun _ _ _ _ => by omega) (xa_subI rfl rfl (fun _ _ _ _ => by omega) (xa_subI rfl rfl (fun _ _ _ _ => by omega) (xa_subI rfl rfl (fun _ _ _ _ => by omega) (xa_subI rfl rfl (fun _ _ _ _ => by omega) (xa_subI rfl rfl (fun _ _ _ _ => by omega) (xa_subI rfl rfl (fun _ _ _ _ => by omega) (xa_subR rfl xa_sub0))))))))) ?_
                  exact ih (i + 1) 0 (by omega) (by omega) (by omega)
                · intro (c8 : ¬ (M 104 (124 * a + 1 + 5 * w + i)) = (M 104 (124 * b + 1 + 5 * w + i)))
                  show Q 114 [(8, (0, 0, 3, 6, i + 1)), (7, (0, 0, 1, 1, 1)), (6, (0, 0, 0, 1, y)), (5, (0, 0, 0, 1, x)), (4, (0, 0, 0, 13, w)), (3, (0, 0, (-2147483648), 2147483647, c)), (2, (0, 0, 0, 3, b)), (1, (0, 0, 0, 3, a)), (0, (2, 60, 0, 0, 0))] [] (xa_up M 60 21 0)
                  refine hgo.2.1 114 _ [(8, (0, 0, 2, 5, i + 1)), (7, (0, 0, 0, 1, 1)), (6, (0, 0, 0, 1, y)), (5, (0, 0, 0, 1, x)), (4, (0, 0, 0, 13, w)), (3, (0, 0, (-2147483648), 2147483647, c)), (2, (0, 0, 0, 3, b)), (1, (0, 0, 0, 3, a)), (0, (2, 60, 0, 0, 0))] _ _ (xa_subI rfl rfl (fun _ _ _ _ => by omega) (xa_subI rfl rfl (fun _ _ _ _ => by omega) (xa_subI rfl rfl (fun _ _ _ _ => by omega) (xa_subI rfl rfl (fun _ _ _ _ => by omega) (xa_subI rfl rfl (fun _ _ _ _ => by omega) (xa_subI rfl rfl (fun _ _ _ _ => by omega) (xa_subI rfl rfl (fun _ _ _ _ => by omega) (xa_subI rfl rfl (fun _ _ _ _ => by omega) (xa_subR rfl xa_sub0))))))))) ?_
                  exact ih (i + 1) 1 (by omega) (by omega) (by omega)
    have loopO : ∀ (n : Nat) (w c : Int), 0 ≤ w → w ≤ 14 → 14 - w < (n : Int) → Q 48 [(4, (0, 0, 0, 14, w)), (3, (0, 0, (-2147483648), 2147483647, c)), (2, (0, 0, 0, 3, b)), (1, (0, 0, 0, 3, a)), (0, (2, 60, 0, 0, 0))] [] (xa_up M 60 21 0) := by
      intro n
      induction n with
      | zero => intro w c h1 h2 hms; omega
      | succ n ihO =>
        intro w c h1 h2 hms
        refine hgo.1 37 [48, 114] 48 _ _ _ ?_
        refine And.intro ?_ ?_
        · intro (c1 : 14 ≤ w)
          show xa_C xm_I A h0 _ 231 [(2, 60, 0, 0, 0), (1, 0, (-2147483648), 2147483647, c)] (xa_up (xa_up M 60 21 0) 60 20 0) _
          refine ct_tell (n := 0) (by first | rfl | (simp [xa_up]; done) | omega) (by omega) (by omega) ?_
          show xa_C xm_I A h0 _ 299 [(2, 60, 0, 0, 0), (0, 0, 0, 3, a)] (xa_up (xa_up (xa_up (xa_up M 60 21 0) 60 20 0) 74 0 c) 60 20 1) _
          refine ct_brokenBy (by omega) (by omega) (xm_bld_c (fun j => by simp [xa_up]) ba) (fun r2 => ?_)
          show xa_C xm_I A h0 _ 231 [(2, 60, 0, 0, 0), (1, 0, (-2147483648), 2147483647, r2)] (xa_up (xa_up (xa_up (xa_up M 60 21 0) 60 20 0) 74 0 c) 60 20 1) _
          refine ct_tell (n := 1) (by first | rfl | (simp [xa_up]; done) | omega) (by omega) (by omega) ?_
          show xa_C xm_I A h0 _ 299 [(2, 60, 0, 0, 0), (0, 0, 0, 3, b)] (xa_up (xa_up (xa_up (xa_up (xa_up (xa_up M 60 21 0) 60 20 0) 74 0 c) 60 20 1) 74 1 r2) 60 20 2) _
          refine ct_brokenBy (by omega) (by omega) (xm_bld_c (fun j => by simp [xa_up]) bb) (fun r3 => ?_)
          show xa_C xm_I A h0 _ 231 [(2, 60, 0, 0, 0), (1, 0, (-2147483648), 2147483647, r3)] (xa_up (xa_up (xa_up (xa_up (xa_up (xa_up M 60 21 0) 60 20 0) 74 0 c) 60 20 1) 74 1 r2) 60 20 2) _
          refine ct_tell (n := 2) (by first | rfl | (simp [xa_up]; done) | omega) (by omega) (by omega) ?_
          show xa_C xm_I A h0 _ 136 [(0, 0, (-2147483648), 2147483647, c)] (xa_up (xa_up (xa_up (xa_up (xa_up (xa_up (xa_up (xa_up M 60 21 0) 60 20 0) 74 0 c) 60 20 1) 74 1 r2) 60 20 2) 74 2 r3) 60 20 3) _
          refine ct_bitCount ?_
          show post (some (0, 0, (-2147483648), 2147483647, xa_bc c)) (xa_up (xa_up (xa_up (xa_up (xa_up (xa_up (xa_up (xa_up M 60 21 0) 60 20 0) 74 0 c) 60 20 1) 74 1 r2) 60 20 2) 74 2 r3) 60 20 3)
          exact k _ _ (xm_cor_f (by omega) (xm_cor_a rfl (xm_cor_f (by omega) (xm_cor_a rfl (xm_cor_f (by omega) (xm_cor_a rfl (xm_cor_f (by omega) (xm_cor_f (by omega) xm_cor_r))))))))
        · intro (c1 : w < 14)
          refine And.intro ?_ ?_
          · intro (c4 : (M 104 (124 * a)) ≤ w)
            refine And.intro ?_ ?_
            · intro (c5 : (M 104 (124 * b)) ≤ w)
              show Q 114 [(8, (0, 0, 2, 2, 2)), (7, (0, 0, 0, 0, 0)), (6, (0, 0, 0, 0, 0)), (5, (0, 0, 0, 0, 0)), (4, (0, 0, 0, 14, w)), (3, (0, 0, (-2147483648), 2147483647, c)), (2, (0, 0, 0, 3, b)), (1, (0, 0, 0, 3, a)), (0, (2, 60, 0, 0, 0))] [] (xa_up M 60 21 0)
              refine hgo.2.1 114 _ [(8, (0, 0, 2, 5, 2)), (7, (0, 0, 0, 1, 0)), (6, (0, 0, 0, 1, 0)), (5, (0, 0, 0, 1, 0)), (4, (0, 0, 0, 13, w)), (3, (0, 0, (-2147483648), 2147483647, c)), (2, (0, 0, 0, 3, b)), (1, (0, 0, 0, 3, a)), (0, (2, 60, 0, 0, 0))] _ _ (xa_subI rfl rfl (fun _ _ _ _ => by omega) (xa_subI rfl rfl (fun _ _ _ _ => by omega) (xa_subI rfl rfl (fun _ _ _ _ => by omega) (xa_subI rfl rfl (fun _ _ _ _ => by omega) (xa_subI rfl rfl (fun _ _ _ _ => by omega) (xa_subI rfl rfl (fun _ _ _ _ => by omega) (xa_subI rfl rfl (fun _ _ _ _ => by omega) (xa_subI rfl rfl (fun _ _ _ _ => by omega) (xa_subR rfl xa_sub0))))))))) ?_
              exact loopI 0 0 c w (by omega) (by omega) (fun w2 c2 z0 z1 => ihO w2 c2 (by omega) (by omega) (by omega)) 4 2 0 (by omega) (by omega) (by omega)
            · intro (c5 : w < (M 104 (124 * b)))
              show Q 114 [(8, (0, 0, 2, 2, 2)), (7, (0, 0, 1, 1, 1)), (6, (0, 0, 1, 1, 1)), (5, (0, 0, 0, 0, 0)), (4, (0, 0, 0, 14, w)), (3, (0, 0, (-2147483648), 2147483647, c)), (2, (0, 0, 0, 3, b)), (1, (0, 0, 0, 3, a)), (0, (2, 60, 0, 0, 0))] [] (xa_up M 60 21 0)
              refine hgo.2.1 114 _ [(8, (0, 0, 2, 5, 2)), (7, (0, 0, 0, 1, 1)), (6, (0, 0, 0, 1, 1)), (5, (0, 0, 0, 1, 0)), (4, (0, 0, 0, 13, w)), (3, (0, 0, (-2147483648), 2147483647, c)), (2, (0, 0, 0, 3, b)), (1, (0, 0, 0, 3, a)), (0, (2, 60, 0, 0, 0))] _ _ (xa_subI rfl rfl (fun _ _ _ _ => by omega) (xa_subI rfl rfl (fun _ _ _ _ => by omega) (xa_subI rfl rfl (fun _ _ _ _ => by omega) (xa_subI rfl rfl (fun _ _ _ _ => by omega) (xa_subI rfl rfl (fun _ _ _ _ => by omega) (xa_subI rfl rfl (fun _ _ _ _ => by omega) (xa_subI rfl rfl (fun _ _ _ _ => by omega) (xa_subI rfl rfl (fun _ _ _ _ => by omega) (xa_subR rfl xa_sub0))))))))) ?_
              exact loopI 0 1 c w (by omega) (by omega) (fun w2 c2 z0 z1 => ihO w2 c2 (by omega) (by omega) (by omega)) 4 2 1 (by omega) (by omega) (by omega)
          · intro (c4 : w < (M 104 (124 * a)))
            refine And.intro ?_ ?_
            · intro (c6 : (M 104 (124 * b)) ≤ w)
              show Q 114 [(8, (0, 0, 2, 2, 2)), (7, (0, 0, 1, 1, 1)), (6, (0, 0, 0, 0, 0)), (5, (0, 0, 1, 1, 1)), (4, (0, 0, 0, 14, w)), (3, (0, 0, (-2147483648), 2147483647, c)), (2, (0, 0, 0, 3, b)), (1, (0, 0, 0, 3, a)), (0, (2, 60, 0, 0, 0))] [] (xa_up M 60 21 0)
              refine hgo.2.1 114 _ [(8, (0, 0, 2, 5, 2)), (7, (0, 0, 0, 1, 1)), (6, (0, 0, 0, 1, 0)), (5, (0, 0, 0, 1, 1)), (4, (0, 0, 0, 13, w)), (3, (0, 0, (-2147483648), 2147483647, c)), (2, (0, 0, 0, 3, b)), (1, (0, 0, 0, 3, a)), (0, (2, 60, 0, 0, 0))] _ _ (xa_subI rfl rfl (fun _ _ _ _ => by omega) (xa_subI rfl rfl (fun _ _ _ _ => by omega) (xa_subI rfl rfl (fun _ _ _ _ => by omega) (xa_subI rfl rfl (fun _ _ _ _ => by omega) (xa_subI rfl rfl (fun _ _ _ _ => by omega) (xa_subI rfl rfl (fun _ _ _ _ => by omega) (xa_subI rfl rfl (fun _ _ _ _ => by omega) (xa_subI rfl rfl (fun _ _ _ _ => by omega) (xa_subR rfl xa_sub0))))))))) ?_
              exact loopI 1 0 c w (by omega) (by omega) (fun w2 c2 z0 z1 => ihO w2 c2 (by omega) (by omega) (by omega)) 4 2 1 (by omega) (by omega) (by omega)
            · intro (c6 : w < (M 104 (124 * b)))
              show Q 114 [(8, (0, 0, 2, 2, 2)), (7, (0, 0, 0, 0, 0)), (6, (0, 0, 1, 1, 1)), (5, (0, 0, 1, 1, 1)), (4, (0, 0, 0, 14, w)), (3, (0, 0, (-2147483648), 2147483647, c)), (2, (0, 0, 0, 3, b)), (1, (0, 0, 0, 3, a)), (0, (2, 60, 0, 0, 0))] [] (xa_up M 60 21 0)
              refine hgo.2.1 114 _ [(8, (0, 0, 2, 5, 2)), (7, (0, 0, 0, 1, 0)), (6, (0, 0, 0, 1, 1)), (5, (0, 0, 0, 1, 1)), (4, (0, 0, 0, 13, w)), (3, (0, 0, (-2147483648), 2147483647, c)), (2, (0, 0, 0, 3, b)), (1, (0, 0, 0, 3, a)), (0, (2, 60, 0, 0, 0))] _ _ (xa_subI rfl rfl (fun _ _ _ _ => by omega) (xa_subI rfl rfl (fun _ _ _ _ => by omega) (xa_subI rfl rfl (fun _ _ _ _ => by omega) (xa_subI rfl rfl (fun _ _ _ _ => by omega) (xa_subI rfl rfl (fun _ _ _ _ => by omega) (xa_subI rfl rfl (fun _ _ _ _ => by omega) (xa_subI rfl rfl (fun _ _ _ _ => by omega) (xa_subI rfl rfl (fun _ _ _ _ => by omega) (xa_subR rfl xa_sub0))))))))) ?_
              exact loopI 1 1 c w (by omega) (by omega) (fun w2 c2 z0 z1 => ihO w2 c2 (by omega) (by omega) (by omega)) 4 2 0 (by omega) (by omega) (by omega)
    exact loopO 15 0 0 (by omega) (by omega) (by omega)
  refine hgo.1 29 [43] 0 _ _ _ ?_
  show xa_C xm_I A h0 _ 214 [(0, 0, (-2147483648), 2147483647, a), (0, 0, 0, 0, 0), (0, 0, 3, 3, 3)] (xa_up M 60 21 0) _
  refine ct_in ?_ ?_
  · intro (i1 : 0 ≤ a ∧ a ≤ 3)
    show xa_C xm_I A h0 _ 214 [(0, 0, (-2147483648), 2147483647, b), (0, 0, 0, 0, 0), (0, 0, 3, 3, 3)] (xa_up M 60 21 0) _
    refine ct_in ?_ ?_
    · intro (i2 : 0 ≤ b ∧ b ≤ 3)
      refine And.intro (show 0 ≤ a ∧ a < 4 by omega) ?_
      refine And.intro ?_ ?_
      · intro (c3 : (M 105 a) = 0)
        show post (some (0, 0, (-1), (-1), (-1))) (xa_up M 60 21 0)
        exact k _ _ (xm_cor_f (by omega) xm_cor_r)
      · intro (c3 : ¬ (M 105 a) = 0)
        refine And.intro (show 0 ≤ b ∧ b < 4 by omega) ?_
        refine And.intro ?_ ?_
        · intro (c4 : ¬ (M 105 b) = 0)
          show Q 43 [(0, (2, 60, 0, 0, 0)), (1, (0, 0, (-2147483648), 2147483647, a)), (2, (0, 0, (-2147483648), 2147483647, b))] [] (xa_up M 60 21 0)
          refine hgo.2.1 43 _ [(0, (2, 60, 0, 0, 0)), (1, (0, 0, 0, 3, a)), (2, (0, 0, 0, 3, b))] _ _ (xa_subR rfl (xa_subI rfl rfl (fun _ _ _ _ => by omega) (xa_subI rfl rfl (fun _ _ _ _ => by omega) xa_sub0))) ?_
          refine hgo.1 9 [48] 43 _ _ _ ?_
          show Q 48 [(4, (0, 0, 0, 0, 0)), (3, (0, 0, 0, 0, 0)), (0, (2, 60, 0, 0, 0)), (1, (0, 0, 0, 3, a)), (2, (0, 0, 0, 3, b))] [] (xa_up M 60 21 0)
          refine hgo.2.1 48 _ [(4, (0, 0, 0, 14, 0)), (3, (0, 0, (-2147483648), 2147483647, 0)), (2, (0, 0, 0, 3, b)), (1, (0, 0, 0, 3, a)), (0, (2, 60, 0, 0, 0))] _ _ (xa_subI rfl rfl (fun _ _ _ _ => by omega) (xa_subI rfl rfl (fun _ _ _ _ => by omega) (xa_subI rfl rfl (fun _ _ _ _ => by omega) (xa_subI rfl rfl (fun _ _ _ _ => by omega) (xa_subR rfl xa_sub0))))) ?_
          exact hgo.2.1 48 _ [(4, (0, 0, 0, 14, 0)), (3, (0, 0, (-2147483648), 2147483647, 0)), (2, (0, 0, 0, 3, b)), (1, (0, 0, 0, 3, a)), (0, (2, 60, 0, 0, 0))] _ _ (xa_subI rfl rfl (fun _ _ _ _ => by omega) (xa_subI rfl rfl (fun _ _ _ _ => by omega) (xa_subI rfl rfl (fun _ _ _ _ => by omega) (xa_subI rfl rfl (fun _ _ _ _ => by omega) (xa_subR rfl xa_sub0))))) (key (by omega) (by omega) (by omega) (by omega) (by omega) (by omega))
        · intro (c4 : (M 105 b) = 0)
          show post (some (0, 0, (-1), (-1), (-1))) (xa_up M 60 21 0)
          exact k _ _ (xm_cor_f (by omega) xm_cor_r)
    · intro (i2 : ¬ (0 ≤ b ∧ b ≤ 3))
      show post (some (0, 0, (-1), (-1), (-1))) (xa_up M 60 21 0)
      exact k _ _ (xm_cor_f (by omega) xm_cor_r)
  · intro (i1 : ¬ (0 ≤ a ∧ a ≤ 3))
    show post (some (0, 0, (-1), (-1), (-1))) (xa_up M 60 21 0)
    exact k _ _ (xm_cor_f (by omega) xm_cor_r)
