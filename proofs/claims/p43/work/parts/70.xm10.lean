-- the book (made by wip/p24/xa/xm10.py)
set_option maxRecDepth 20000
/-- only at and wrong may be others -/
def xm_f2 (M M1 : xa_M) : Prop := ∀ q j, ¬ (q = 60 ∧ (j = 41 ∨ j = 42)) → M1 q j = M q j
theorem xm_f2_u {M M1 : xa_M} {j v : Int} (hj : j = 41 ∨ j = 42) (h : xm_f2 M M1) : xm_f2 M (xa_up M1 60 j v) := fun q j' hn => by
  rw [xa_up_ne (by omega)]
  exact h q j' hn
def xm_c18 (M M1 : xa_M) : Prop := ∀ q j, ¬ xm_scr q j → ¬ (q = 60 ∧ j = 18) → M1 q j = M q j
theorem xm_c18_u {M M1 : xa_M} {q : Nat} {j v : Int} (hs : ((74 ≤ q ∧ q ≤ 95) ∨ (q = 60 ∧ ((20 ≤ j ∧ j ≤ 53) ∨ j = 68))) ∨ (q = 60 ∧ j = 18)) (h : xm_c18 M M1) : xm_c18 M (xa_up M1 q j v) := fun q' j' hn hn2 => by
  rw [xa_up_ne (fun e => by
    rcases hs with hs | hs
    · exact hn (by rw [e.1, e.2]; exact hs)
    · exact hn2 (by rw [e.1, e.2]; exact hs))]
  exact h q' j' hn hn2
theorem xm_c18_f {M M1 M2 : xa_M} (h : xm_c18 M M1) (h2 : xm_f2 M1 M2) : xm_c18 M M2 := fun q j hn hn2 => (h2 q j (fun e => hn (by omega))).trans (h q j hn hn2)
theorem xm_c18_I {M M1 : xa_M} (hI : xm_Inv M) (h : xm_c18 M M1) : xm_Inv M1 := by
  refine xm_Inv_b (M := M) (fun j => h 104 j (by omega) (by omega)) (fun j => h 105 j (by omega) (by omega)) hI (fun w w0 w1 => ?_) (fun m m0 m1 => ?_) (fun p p0 p1 => ?_) ?_
  · rw [h 60 0 (by omega) (by omega)] at w1
    rw [h 61 w (by omega) (by omega), h 62 w (by omega) (by omega), h 63 w (by omega) (by omega)]
    exact hI.1 w w0 w1
  · rw [h 60 6 (by omega) (by omega)] at m1
    rw [h 66 m (by omega) (by omega), h 67 m (by omega) (by omega), h 60 0 (by omega) (by omega)]
    exact hI.2.1 m m0 m1
  · rw [h 60 11 (by omega) (by omega)] at p1
    rw [h 70 p (by omega) (by omega), h 71 p (by omega) (by omega)]
    exact hI.2.2.1 p p0 p1
  · rw [h 60 15 (by omega) (by omega), h 60 16 (by omega) (by omega)]
    exact hI.2.2.2.1
/-- the book is copied -/
def xm_bkc (M M1 : xa_M) (n p : Int) : Prop := (∀ q j, ¬ xm_scr q j → ¬ (q = 60 ∧ (j = 18 ∨ j = 11)) → ¬ (70 ≤ q ∧ q ≤ 72) → M1 q j = M q j) ∧ M1 60 11 = n ∧ (∀ x, 0 ≤ x → x < n → 1 ≤ M1 88 x ∧ 1 ≤ M1 89 x) ∧ (∀ x, 0 ≤ x → x < p → 1 ≤ M1 70 x ∧ 1 ≤ M1 71 x)
theorem xm_bkc_I {M M1 : xa_M} {n : Int} (hI : xm_Inv M) (h : xm_bkc M M1 n n) : xm_Inv M1 := by
  obtain ⟨h1, h2, h3, h4⟩ := h
  refine xm_Inv_b (M := M) (fun j => h1 104 j (by omega) (by omega) (by omega)) (fun j => h1 105 j (by omega) (by omega) (by omega)) hI (fun w w0 w1 => ?_) (fun m m0 m1 => ?_) (fun p p0 p1 => ?_) ?_
  · rw [h1 60 0 (by omega) (by omega) (by omega)] at w1
    rw [h1 61 w (by omega) (by omega) (by omega), h1 62 w (by omega) (by omega) (by omega), h1 63 w (by omega) (by omega) (by omega)]
    exact hI.1 w w0 w1
  · rw [h1 60 6 (by omega) (by omega) (by omega)] at m1
    rw [h1 66 m (by omega) (by omega) (by omega), h1 67 m (by omega) (by omega) (by omega), h1 60 0 (by omega) (by omega) (by omega)]
    exact hI.2.1 m m0 m1
  · exact h4 p p0 (by omega)
  · rw [h1 60 15 (by omega) (by omega) (by omega), h1 60 16 (by omega) (by omega) (by omega)]
    exact hI.2.2.2.1
theorem ct_here {A : Nat → Nat} {h0 : g_H} {d : Nat} {M : xa_M} {post : Option xa_V → xa_M → Prop} (k : ∀ r : Int, ((M 60 41 < M 60 40 ∧ M 60 41 < 60 ∧ r = M 73 (M 60 41)) ∨ (¬ (M 60 41 < M 60 40 ∧ M 60 41 < 60) ∧ r = -1)) → post (some (0, 0, -128, 127, r)) M) : xa_C xm_I A h0 (d + 1) 254 [(2, 60, 0, 0, 0)] M post := by
  refine xa_C_wk ?_
  refine xa_meth (Q0 := (1, 1, false, 0, 0, 12)) (by decide +kernel) ⟨rfl, rfl⟩ (full := s_c_254) rfl rfl ?_
  intro hM hv Q hgo
  have b41 := xm_f41 hM
  refine hgo.1 20 [] 0 _ _ _ ?_
  refine And.intro ?_ ?_
  · intro (c1 : (M 60 40) ≤ (M 60 41))
    show xa_wk post (some (0, 0, (-1), (-1), (-1))) M
    exact xa_wkI (-1) rfl (fun _ _ => by omega) (k _ (by omega))
  · intro (c1 : (M 60 41) < (M 60 40))
    refine And.intro ?_ ?_
    · intro (c2 : 60 ≤ (M 60 41))
      show xa_wk post (some (0, 0, (-1), (-1), (-1))) M
      exact xa_wkI (-1) rfl (fun _ _ => by omega) (k _ (by omega))
    · intro (c2 : (M 60 41) < 60)
      refine And.intro (show 0 ≤ (M 60 41) ∧ (M 60 41) < 80 by omega) ?_
      show xa_wk post (some (0, 0, (-128), 127, M 73 (M 60 41))) M
      exact xa_wkI (M 73 (M 60 41)) rfl (fun _ _ => by omega) (k _ (by omega))
theorem ct_fault {A : Nat → Nat} {h0 : g_H} {d : Nat} {M : xa_M} {post : Option xa_V → xa_M → Prop} {l1 u1 : Int} {a : Int} (ha : True) (k1 : M 60 42 = -1 → post none (xa_up M 60 42 a)) (k2 : ¬ M 60 42 = -1 → post none M) : xa_C xm_I A h0 (d + 1) 255 [(2, 60, 0, 0, 0), (0, 0, l1, u1, a)] M post := by
  refine xa_C_arg [(2, 60, 0, 0, 0), (0, 0, (-2147483648), 2147483647, a)] (xa_svR (xa_svI (fun _ _ _ _ => by omega) xa_sv0)) ?_
  refine xa_meth (Q0 := (2, 0, false, 0, 0, 12)) (by decide +kernel) ⟨rfl, rfl⟩ (full := s_c_255) rfl rfl ?_
  intro hM hv Q hgo
  refine hgo.1 12 [] 0 _ _ _ ?_
  refine And.intro ?_ ?_
  · intro (c1 : ¬ (M 60 42) = (-1))
    show post none M
    first | exact k1 c1 | exact k2 c1
  · intro (c1 : (M 60 42) = (-1))
    show post none (xa_up M 60 42 a)
    first | exact k1 c1 | exact k2 c1
theorem ct_number {A : Nat → Nat} {h0 : g_H} {d : Nat} {M : xa_M} {post : Option xa_V → xa_M → Prop} (k : ∀ (r : Int) (M1 : xa_M), xm_f2 M M1 → (0 ≤ r ∧ r ≤ 2000) → (M 60 41 ≤ M1 60 41 ∧ (M1 60 41 = M 60 41 ∨ M1 60 41 ≤ 60)) → (M1 60 42 = -1 → M 60 42 = -1 ∧ 1 ≤ r) → post (some (0, 0, 0, 2000, r)) M1) : xa_C xm_I A h0 (d + 2) 253 [(2, 60, 0, 0, 0)] M post := by
  refine xa_C_wk ?_
  refine xa_meth (Q0 := (3, 1, false, 0, 0, 12)) (by decide +kernel) ⟨rfl, rfl⟩ (full := s_c_253) rfl rfl ?_
  intro hM hv Q hgo
  have b41 := xm_f41 hM
  have loop : ∀ (n : Nat) (v f : Int) (M1 : xa_M), xm_f2 M M1 → 0 ≤ v → 0 ≤ f → f ≤ M1 60 41 ∧ M1 60 41 ≤ f + 4 ∧ (M1 60 41 = f ∨ M1 60 41 ≤ 60) → (M1 60 41 = f → v = 0) ∧ (M1 60 41 = f + 1 → v ≤ 9) ∧ (M1 60 41 = f + 2 → v ≤ 99) ∧ (M1 60 41 = f + 3 → v ≤ 999) ∧ v ≤ 9999 → M1 60 42 = -1 ∧ M 60 41 = f ∧ M 60 42 = -1 → f + 4 - M1 60 41 < (n : Int) → Q 17 [(2, (0, 0, 0, 9999, v)), (1, (0, 0, 0, 100, f)), (0, (2, 60, 0, 0, 0))] [] M1 := by
    intro n
    induction n with
    | zero => intro v f M1 hf v0 f0 ha hb hw hms; omega
    | succ n ih =>
      intro v f M1 hf v0 f0 ha hb hw hms
      refine hgo.2.2 _ _ _ _ (fun hM1 _ => ?_)
      have b41 := xm_f41 hM1
      refine hgo.1 38 [17] 17 _ _ _ ?_
      refine And.intro ?_ ?_
      · intro (c1 : (f + 4) ≤ (M1 60 41))
        refine And.intro ?_ ?_
        · intro (c2 : ¬ (M1 60 41) = f)
          show xa_C xm_I A h0 _ 214 [(0, 0, 0, 9999, v), (0, 0, 1, 1, 1), (0, 0, 2000, 2000, 2000)] M1 _
          refine ct_in ?_ ?_
          · intro (i3 : 1 ≤ v ∧ v ≤ 2000)
            refine And.intro ?_ ?_
            · intro (c4 : ¬ (M1 60 42) = (-1))
              show xa_wk post (some (0, 0, 0, 0, 0)) M1
              exact xa_wkI 0 rfl (fun _ _ => by omega) (k _ _ hf (by first | omega | (simp [xa_up]; omega)) (by first | omega | (simp [xa_up]; omega)) (by first | omega | (simp [xa_up]; omega)))
            · intro (c4 : (M1 60 42) = (-1))
              show xa_wk post (some (0, 0, 0, 9999, v)) M1
              exact xa_wkI v rfl (fun _ _ => by omega) (k _ _ hf (by first | omega | (simp [xa_up]; omega)) (by first | omega | (simp [xa_up]; omega)) (by first | omega | (simp [xa_up]; omega)))
          · intro (i3 : ¬ (1 ≤ v ∧ v ≤ 2000))
            show xa_C xm_I A h0 _ 255 [(2, 60, 0, 0, 0), (0, 0, (-1), 99, (M1 60 41) - 1)] M1 _
            refine ct_fault trivial ?_ ?_
            · intro (f5 : (M1 60 42) = -1)
              refine And.intro ?_ ?_
              · intro (c6 : ¬ ((M1 60 41) - 1) = (-1))
                show xa_wk post (some (0, 0, 0, 0, 0)) (xa_up M1 60 42 ((M1 60 41) - 1))
                exact xa_wkI 0 rfl (fun _ _ => by omega) (k _ _ (xm_f2_u (by omega) hf) (by first | omega | (simp [xa_up]; omega)) (by first | omega | (simp [xa_up]; omega)) (by first | omega | (simp [xa_up]; omega)))
              · intro (c6 : ((M1 60 41) - 1) = (-1))
                show xa_wk post (some (0, 0, 0, 9999, v)) (xa_up M1 60 42 ((M1 60 41) - 1))
                exact xa_wkI v rfl (fun _ _ => by omega) (k _ _ (xm_f2_u (by omega) hf) (by first | omega | (simp [xa_up]; omega)) (by first | omega | (simp [xa_up]; omega)) (by first | omega | (simp [xa_up]; omega)))
            · intro (f5 : ¬ (M1 60 42) = -1)
              refine And.intro ?_ ?_
              · intro (c7 : ¬ (M1 60 42) = (-1))
                show xa_wk post (some (0, 0, 0, 0, 0)) M1
                exact xa_wkI 0 rfl (fun _ _ => by omega) (k _ _ hf (by first | omega | (simp [xa_up]; omega)) (by first | omega | (simp [xa_up]; omega)) (by first | omega | (simp [xa_up]; omega)))
              · intro (c7 : (M1 60 42) = (-1))
                show xa_wk post (some (0, 0, 0, 9999, v)) M1
                exact xa_wkI v rfl (fun _ _ => by omega) (k _ _ hf (by first | omega | (simp [xa_up]; omega)) (by first | omega | (simp [xa_up]; omega)) (by first | omega | (simp [xa_up]; omega)))
        · intro (c2 : (M1 60 41) = f)
          show xa_C xm_I A h0 _ 255 [(2, 60, 0, 0, 0), (0, 0, 0, 100, M1 60 41)] M1 _
          refine ct_fault trivial ?_ ?_
          · intro (f8 : (M1 60 42) = -1)
            refine And.intro ?_ ?_
            · intro (c9 : ¬ (M1 60 41) = (-1))
              show xa_wk post (some (0, 0, 0, 0, 0)) (xa_up M1 60 42 (M1 60 41))
              exact xa_wkI 0 rfl (fun _ _ => by omega) (k _ _ (xm_f2_u (by omega) hf) (by first | omega | (simp [xa_up]; omega)) (by first | omega | (simp [xa_up]; omega)) (by first | omega | (simp [xa_up]; omega)))
            · intro (c9 : (M1 60 41) = (-1))
              show xa_wk post (some (0, 0, 0, 9999, v)) (xa_up M1 60 42 (M1 60 41))
              exact xa_wkI v rfl (fun _ _ => by omega) (k _ _ (xm_f2_u (by omega) hf) (by first | omega | (simp [xa_up]; omega)) (by first | omega | (simp [xa_up]; omega)) (by first | omega | (simp [xa_up]; omega)))
          · intro (f8 : ¬ (M1 60 42) = -1)
            refine And.intro ?_ ?_
            · intro (c10 : ¬ (M1 60 42) = (-1))
              show xa_wk post (some (0, 0, 0, 0, 0)) M1
              exact xa_wkI 0 rfl (fun _ _ => by omega) (k _ _ hf (by first | omega | (simp [xa_up]; omega)) (by first | omega | (simp [xa_up]; omega)) (by first | omega | (simp [xa_up]; omega)))
            · intro (c10 : (M1 60 42) = (-1))
              show xa_wk post (some (0, 0, 0, 9999, v)) M1
              exact xa_wkI v rfl (fun _ _ => by omega) (k _ _ hf (by first | omega | (simp [xa_up]; omega)) (by first | omega | (simp [xa_up]; omega)) (by first | omega | (simp [xa_up]; omega)))
      · intro (c1 : (M1 60 41) < (f + 4))
        show xa_C xm_I A h0 _ 254 [(2, 60, 0, 0, 0)] M1 _
        refine ct_here (fun h11 eh11 => ?_)
        replace eh11 : ((M1 60 41) < (M1 60 40) ∧ (M1 60 41) < 60 ∧ h11 = M1 73 (M1 60 41)) ∨ (¬ ((M1 60 41) < (M1 60 40) ∧ (M1 60 41) < 60) ∧ h11 = -1) := eh11
        show xa_C xm_I A h0 _ 214 [(0, 0, (-128), 127, h11), (0, 0, 48, 48, 48), (0, 0, 57, 57, 57)] M1 _
        refine ct_in ?_ ?_
        · intro (i12 : 48 ≤ h11 ∧ h11 ≤ 57)
          show xa_C xm_I A h0 _ 254 [(2, 60, 0, 0, 0)] M1 _
          refine ct_here (fun h13 eh13 => ?_)
          replace eh13 : ((M1 60 41) < (M1 60 40) ∧ (M1 60 41) < 60 ∧ h13 = M1 73 (M1 60 41)) ∨ (¬ ((M1 60 41) < (M1 60 40) ∧ (M1 60 41) < 60) ∧ h13 = -1) := eh13
          refine And.intro (show 0 ≤ ((M1 60 41) + 1) ∧ ((M1 60 41) + 1) ≤ 100 by omega) ?_
          show Q 17 [(2, (0, 0, (-176), 100069, ((10 * v) + h13) - 48)), (1, (0, 0, 0, 100, f)), (0, (2, 60, 0, 0, 0))] [] (xa_up M1 60 41 ((M1 60 41) + 1))
          refine hgo.2.1 17 _ [(2, (0, 0, 0, 9999, ((10 * v) + h13) - 48)), (1, (0, 0, 0, 100, f)), (0, (2, 60, 0, 0, 0))] _ _ (xa_subI rfl rfl (fun _ _ _ _ => by omega) (xa_subI rfl rfl (fun _ _ _ _ => by omega) (xa_subR rfl xa_sub0))) ?_
          exact ih ((((10 * v) + h13) - 48)) f (xa_up M1 60 41 ((M1 60 41) + 1)) (xm_f2_u (by omega) hf) (by omega) (by first | omega | (simp [xa_up]; omega)) (by first | omega | (simp [xa_up]; omega)) (by first | omega | (simp [xa_up]; omega)) (by first | omega | (simp [xa_up]; omega)) (by first | omega | (simp [xa_up]; omega))
        · intro (i12 : ¬ (48 ≤ h11 ∧ h11 ≤ 57))
          refine And.intro ?_ ?_
          · intro (c14 : ¬ (M1 60 41) = f)
            show xa_C xm_I A h0 _ 214 [(0, 0, 0, 9999, v), (0, 0, 1, 1, 1), (0, 0, 2000, 2000, 2000)] M1 _
            refine ct_in ?_ ?_
            · intro (i15 : 1 ≤ v ∧ v ≤ 2000)
              refine And.intro ?_ ?_
              · intro (c16 : ¬ (M1 60 42) = (-1))
                show xa_wk post (some (0, 0, 0, 0, 0)) M1
                exact xa_wkI 0 rfl (fun _ _ => by omega) (k _ _ hf (by first | omega | (simp [xa_up]; omega)) (by first | omega | (simp [xa_up]; omega)) (by first | omega | (simp [xa_up]; omega)))
              · intro (c16 : (M1 60 42) = (-1))
                show xa_wk post (some (0, 0, 0, 9999, v)) M1
                exact xa_wkI v rfl (fun _ _ => by omega) (k _ _ hf (by first | omega | (simp [xa_up]; omega)) (by first | omega | (simp [xa_up]; omega)) (by first | omega | (simp [xa_up]; omega)))
            · intro (i15 : ¬ (1 ≤ v ∧ v ≤ 2000))
              show xa_C xm_I A h0 _ 255 [(2, 60, 0, 0, 0), (0, 0, (-1), 99, (M1 60 41) - 1)] M1 _
              refine ct_fault trivial ?_ ?_
              · intro (f17 : (M1 60 42) = -1)
                refine And.intro ?_ ?_
                · intro (c18 : ¬ ((M1 60 41) - 1) = (-1))
                  show xa_wk post (some (0, 0, 0, 0, 0)) (xa_up M1 60 42 ((M1 60 41) - 1))
                  exact xa_wkI 0 rfl (fun _ _ => by omega) (k _ _ (xm_f2_u (by omega) hf) (by first | omega | (simp [xa_up]; omega)) (by first | omega | (simp [xa_up]; omega)) (by first | omega | (simp [xa_up]; omega)))
                · intro (c18 : ((M1 60 41) - 1) = (-1))
                  show xa_wk post (some (0, 0, 0, 9999, v)) (xa_up M1 60 42 ((M1 60 41) - 1))
                  exact xa_wkI v rfl (fun _ _ => by omega) (k _ _ (xm_f2_u (by omega) hf) (by first | omega | (simp [xa_up]; omega)) (by first | omega | (simp [xa_up]; omega)) (by first | omega | (simp [xa_up]; omega)))
              · intro (f17 : ¬ (M1 60 42) = -1)
                refine And.intro ?_ ?_
                · intro (c19 : ¬ (M1 60 42) = (-1))
                  show xa_wk post (some (0, 0, 0, 0, 0)) M1
                  exact xa_wkI 0 rfl (fun _ _ => by omega) (k _ _ hf (by first | omega | (simp [xa_up]; omega)) (by first | omega | (simp [xa_up]; omega)) (by first | omega | (simp [xa_up]; omega)))
                · intro (c19 : (M1 60 42) = (-1))
                  show xa_wk post (some (0, 0, 0, 9999, v)) M1
                  exact xa_wkI v rfl (fun _ _ => by omega) (k _ _ hf (by first | omega | (simp [xa_up]; omega)) (by first | omega | (simp [xa_up]; omega)) (by first | omega | (simp [xa_up]; omega)))
          · intro (c14 : (M1 60 41) = f)
            show xa_C xm_I A h0 _ 255 [(2, 60, 0, 0, 0), (0, 0, 0, 100, M1 60 41)] M1 _
            refine ct_fault trivial ?_ ?_
            · intro (f20 : (M1 60 42) = -1)
              refine And.intro ?_ ?_
              · intro (c21 : ¬ (M1 60 41) = (-1))
                show xa_wk post (some (0, 0, 0, 0, 0)) (xa_up M1 60 42 (M1 60 41))
                exact xa_wkI 0 rfl (fun _ _ => by omega) (k _ _ (xm_f2_u (by omega) hf) (by first | omega | (simp [xa_up]; omega)) (by first | omega | (simp [xa_up]; omega)) (by first | omega | (simp [xa_up]; omega)))
              · intro (c21 : (M1 60 41) = (-1))
                show xa_wk post (some (0, 0, 0, 9999, v)) (xa_up M1 60 42 (M1 60 41))
                exact xa_wkI v rfl (fun _ _ => by omega) (k _ _ (xm_f2_u (by omega) hf) (by first | omega | (simp [xa_up]; omega)) (by first | omega | (simp [xa_up]; omega)) (by first | omega | (simp [xa_up]; omega)))
            · intro (f20 : ¬ (M1 60 42) = -1)
              refine And.intro ?_ ?_
              · intro (c22 : ¬ (M1 60 42) = (-1))
                show xa_wk post (some (0, 0, 0, 0, 0)) M1
                exact xa_wkI 0 rfl (fun _ _ => by omega) (k _ _ hf (by first | omega | (simp [xa_up]; omega)) (by first | omega | (simp [xa_up]; omega)) (by first | omega | (simp [xa_up]; omega)))
              · intro (c22 : (M1 60 42) = (-1))
                show xa_wk post (some (0, 0, 0, 9999, v)) M1
                exact xa_wkI v rfl (fun _ _ => by omega) (k _ _ hf (by first | omega | (simp [xa_up]; omega)) (by first | omega | (simp [xa_up]; omega)) (by first | omega | (simp [xa_up]; omega)))
  refine hgo.1 14 [17] 0 _ _ _ ?_
  refine And.intro ?_ ?_
  · intro (c1 : (M 60 42) = (-1))
    show Q 17 [(2, (0, 0, 0, 0, 0)), (1, (0, 0, 0, 100, M 60 41)), (0, (2, 60, 0, 0, 0))] [] M
    refine hgo.2.1 17 _ [(2, (0, 0, 0, 9999, 0)), (1, (0, 0, 0, 100, M 60 41)), (0, (2, 60, 0, 0, 0))] _ _ (xa_subI rfl rfl (fun _ _ _ _ => by omega) (xa_subI rfl rfl (fun _ _ _ _ => by omega) (xa_subR rfl xa_sub0))) ?_
    exact loop 5 0 (M 60 41) M (fun _ _ _ => rfl) (by omega) (by omega) (by omega) (by omega) (by omega) (by omega)
  · intro (c1 : ¬ (M 60 42) = (-1))
    show xa_wk post (some (0, 0, 0, 0, 0)) M
    exact xa_wkI 0 rfl (fun _ _ => by omega) (k _ _ (fun _ _ _ => rfl) (by omega) (by omega) (by omega))
