-- the book (made by wip/p24/xa/xm10.py)
set_option maxRecDepth 20000
/-- only at and wrong may be others -/
def xm_f2 (M M1 : xa_M) : Prop := ∀ q j, ¬ (q = 60 ∧ (j = 41 ∨ j = 42)) → M1 q j = M q j
theorem xm_f2_u {M M1 : xa_M} {j v : Int} (hj : j = 41 ∨ j = 42) (h : xm_f2 M M1) : xm_f2 M (xa_up M1 60 j v) := fun q j' hn => by
  rw [xa_up_ne (by omega)]
  exact h q j' hn
theorem xm_f2_t {M M1 M2 : xa_M} (h : xm_f2 M M1) (h2 : xm_f2 M1 M2) : xm_f2 M M2 := fun q j hn => (h2 q j hn).trans (h q j hn)
def xm_c18 (M M1 : xa_M) : Prop := ∀ q j, ¬ xm_scr q j → ¬ (q = 60 ∧ j = 18) → M1 q j = M q j
theorem xm_c18_u {M M1 : xa_M} {q : Nat} {j v : Int} (hs : ((74 ≤ q ∧ q ≤ 95) ∨ (q = 60 ∧ ((20 ≤ j ∧ j ≤ 53) ∨ j = 68))) ∨ (q = 60 ∧ j = 18)) (h : xm_c18 M M1) : xm_c18 M (xa_up M1 q j v) := fun q' j' hn hn2 => by
  rw [xa_up_ne (fun e => by
    rcases hs with hs | hs
    · exact hn (by rw [e.1, e.2]; exact hs)
    · exact hn2 (by rw [e.1, e.2]; exact hs))]
  exact h q' j' hn hn2
theorem xm_c18_f {M M1 M2 : xa_M} (h : xm_c18 M M1) (h2 : xm_f2 M1 M2) : xm_c18 M M2 := fun q j hn hn2 => (h2 q j (fun e => hn (by omega))).trans (h q j hn hn2)
theorem xm_c18_I {M M1 : xa_M} (hI : xm_Inv M) (h : xm_c18 M M1) : xm_Inv M1 := by
  refine xm_Inv_b (M := M) (fun j => h 104 j (by omega) (by omega)) (fun j => h 105 j (by omega) (by omega)) hI (fun w w0 w1 => ?_) (fun m m0 m1 => ?_) (fun p p0 p1 => ?_) ?_
  · rw [h 60 0 (by omega) (by omega)] at w1
    rw [h 61 w (by omega) (by omega), h 62 w (by omega) (by omega), h 63 w (by omega) (by omega)]
    exact hI.1 w w0 w1
  · rw [h 60 6 (by omega) (by omega)] at m1
    rw [h 66 m (by omega) (by omega), h 67 m (by omega) (by omega), h 60 0 (by omega) (by omega)]
    exact hI.2.1 m m0 m1
  · rw [h 60 11 (by omega) (by omega)] at p1
    rw [h 70 p (by omega) (by omega), h 71 p (by omega) (by omega)]
    exact hI.2.2.1 p p0 p1
  · rw [h 60 15 (by omega) (by omega), h 60 16 (by omega) (by omega)]
    exact hI.2.2.2.1
/-- the book is copied -/
def xm_bkc (M M1 : xa_M) (n p : Int) : Prop := (∀ q j, ¬ xm_scr q j → ¬ (q = 60 ∧ (j = 18 ∨ j = 11)) → ¬ (70 ≤ q ∧ q ≤ 72) → M1 q j = M q j) ∧ M1 60 11 = n ∧ (∀ x, 0 ≤ x → x < n → 1 ≤ M1 88 x ∧ 1 ≤ M1 89 x) ∧ (∀ x, 0 ≤ x → x < p → 1 ≤ M1 70 x ∧ 1 ≤ M1 71 x)
theorem xm_bkc_I {M M1 : xa_M} {n : Int} (hI : xm_Inv M) (h : xm_bkc M M1 n n) : xm_Inv M1 := by
  obtain ⟨h1, h2, h3, h4⟩ := h
  refine xm_Inv_b (M := M) (fun j => h1 104 j (by omega) (by omega) (by omega)) (fun j => h1 105 j (by omega) (by omega) (by omega)) hI (fun w w0 w1 => ?_) (fun m m0 m1 => ?_) (fun p p0 p1 => ?_) ?_
  · rw [h1 60 0 (by omega) (by omega) (by omega)] at w1
    rw [h1 61 w (by omega) (by omega) (by omega), h1 62 w (by omega) (by omega) (by omega), h1 63 w (by omega) (by omega) (by omega)]
    exact hI.1 w w0 w1
  · rw [h1 60 6 (by omega) (by omega) (by omega)] at m1
    rw [h1 66 m (by omega) (by omega) (by omega), h1 67 m (by omega) (by omega) (by omega), h1 60 0 (by omega) (by omega) (by omega)]
    exact hI.2.1 m m0 m1
  · exact h4 p p0 (by omega)
  · rw [h1 60 15 (by omega) (by omega) (by omega), h1 60 16 (by omega) (by omega) (by omega)]
    exact hI.2.2.2.1
theorem ct_here {A : Nat → Nat} {h0 : g_H} {d : Nat} {M : xa_M} {post : Option xa_V → xa_M → Prop} (k : ∀ r : Int, ((M 60 41 < M 60 40 ∧ M 60 41 < 60 ∧ r = M 73 (M 60 41)) ∨ (¬ (M 60 41 < M 60 40 ∧ M 60 41 < 60) ∧ r = -1)) → post (some (0, 0, -128, 127, r)) M) : xa_C xm_I A h0 (d + 1) 254 [(2, 60, 0, 0, 0)] M post := by
  refine xa_C_wk ?_
  refine xa_meth (Q0 := (1, 1, false, 0, 0, 12)) (by decide +kernel) ⟨rfl, rfl⟩ (full := s_c_254) rfl rfl ?_
  intro hM hv Q hgo
  have b41 := xm_f41 hM
  refine hgo.1 20 [] 0 _ _ _ ?_
  refine And.intro ?_ ?_
  · intro (c1 : (M 60 40) ≤ (M 60 41))
    show xa_wk post (some (0, 0, (-1), (-1), (-1))) M
    exact xa_wkI (-1) rfl (fun _ _ => by omega) (k _ (by omega))
  · intro (c1 : (M 60 41) < (M 60 40))
    refine And.intro ?_ ?_
    · intro (c2 : 60 ≤ (M 60 41))
      show xa_wk post (some (0, 0, (-1), (-1), (-1))) M
      exact xa_wkI (-1) rfl (fun _ _ => by omega) (k _ (by omega))
    · intro (c2 : (M 60 41) < 60)
      refine And.intro (show 0 ≤ (M 60 41) ∧ (M 60 41) < 80 by omega) ?_
      show xa_wk post (some (0, 0, (-128), 127, M 73 (M 60 41))) M
      exact xa_wkI (M 73 (M 60 41)) rfl (fun _ _ => by omega) (k _ (by omega))
theorem ct_fault {A : Nat → Nat} {h0 : g_H} {d : Nat} {M : xa_M} {post : Option xa_V → xa_M → Prop} {l1 u1 : Int} {a : Int} (ha : True) (k1 : M 60 42 = -1 → post none (xa_up M 60 42 a)) (k2 : ¬ M 60 42 = -1 → post none M) : xa_C xm_I A h0 (d + 1) 255 [(2, 60, 0, 0, 0), (0, 0, l1, u1, a)] M post := by
  refine xa_C_arg [(2, 60, 0, 0, 0), (0, 0, (-2147483648), 2147483647, a)] (xa_svR (xa_svI (fun _ _ _ _ => by omega) xa_sv0)) ?_
  refine xa_meth (Q0 := (2, 0, false, 0, 0, 12)) (by decide +kernel) ⟨rfl, rfl⟩ (full := s_c_255) rfl rfl ?_
  intro hM hv Q hgo
  refine hgo.1 12 [] 0 _ _ _ ?_
  refine And.intro ?_ ?_
  · intro (c1 : ¬ (M 60 42) = (-1))
    show post none M
    first | exact k1 c1 | exact k2 c1
  · intro (c1 : (M 60 42) = (-1))
    show post none (xa_up M 60 42 a)
    first | exact k1 c1 | exact k2 c1
theorem ct_number {A : Nat → Nat} {h0 : g_H} {d : Nat} {M : xa_M} {post : Option xa_V → xa_M → Prop} (k : ∀ (r : Int) (M1 : xa_M), xm_f2 M M1 → (0 ≤ r ∧ r ≤ 2000) → (M 60 41 ≤ M1 60 41 ∧ (M1 60 41 = M 60 41 ∨ M1 60 41 ≤ 60)) → (M1 60 42 = -1 → M 60 42 = -1 ∧ 1 ≤ r) → post (some (0, 0, 0, 2000, r)) M1) : xa_C xm_I A h0 (d + 2) 253 [(2, 60, 0, 0, 0)] M post := by
  refine xa_C_wk ?_
  refine xa_meth (Q0 := (3, 1, false, 0, 0, 12)) (by decide +kernel) ⟨rfl, rfl⟩ (full := s_c_253) rfl rfl ?_
  intro hM hv Q hgo
  have b41 := xm_f41 hM
  have loop : ∀ (n : Nat) (v f : Int) (M1 : xa_M), xm_f2 M M1 → 0 ≤ v → 0 ≤ f → f ≤ M1 60 41 ∧ M1 60 41 ≤ f + 4 ∧ (M1 60 41 = f ∨ M1 60 41 ≤ 60) → (M1 60 41 = f → v = 0) ∧ (M1 60 41 = f + 1 → v ≤ 9) ∧ (M1 60 41 = f + 2 → v ≤ 99) ∧ (M1 60 41 = f + 3 → v ≤ 999) ∧ v ≤ 9999 → M1 60 42 = -1 ∧ M 60 41 = f ∧ M 60 42 = -1 → f + 4 - M1 60 41 < (n : Int) → Q 17 [(2, (0, 0, 0, 9999, v)), (1, (0, 0, 0, 100, f)), (0, (2, 60, 0, 0, 0))] [] M1 := by
    intro n
    induction n with
    | zero => intro v f M1 hf v0 f0 ha hb hw hms; omega
    | succ n ih =>
      intro v f M1 hf v0 f0 ha hb hw hms
      refine hgo.2.2 _ _ _ _ (fun hM1 _ => ?_)
      have b41 := xm_f41 hM1
      refine hgo.1 38 [17] 17 _ _ _ ?_
      refine And.intro ?_ ?_
      · intro (c1 : (f + 4) ≤ (M1 60 41))
        refine And.intro ?_ ?_
        · intro (c2 : ¬ (M1 60 41) = f)
          show xa_C xm_I A h0 _ 214 [(0, 0, 0, 9999, v), (0, 0, 1, 1, 1), (0, 0, 2000, 2000, 2000)] M1 _
          refine ct_in ?_ ?_
          · intro (i3 : 1 ≤ v ∧ v ≤ 2000)
            refine And.intro ?_ ?_
            · intro (c4 : ¬ (M1 60 42) = (-1))
              show xa_wk post (some (0, 0, 0, 0, 0)) M1
              exact xa_wkI 0 rfl (fun _ _ => by omega) (k _ _ hf (by first | omega | (simp [xa_up]; omega)) (by first | omega | (simp [xa_up]; omega)) (by first | omega | (simp [xa_up]; omega)))
            · intro (c4 : (M1 60 42) = (-1))
              show xa_wk post (some (0, 0, 0, 9999, v)) M1
              exact xa_wkI v rfl (fun _ _ => by omega) (k _ _ hf (by first | omega | (simp [xa_up]; omega)) (by first | omega | (simp [xa_up]; omega)) (by first | omega | (simp [xa_up]; omega)))
          · intro (i3 : ¬ (1 ≤ v ∧ v ≤ 2000))
            show xa_C xm_I A h0 _ 255 [(2, 60, 0, 0, 0), (0, 0, (-1), 99, (M1 60 41) - 1)] M1 _
            refine ct_fault trivial ?_ ?_
            · intro (f5 : (M1 60 42) = -1)
              refine And.intro ?_ ?_
              · intro (c6 : ¬ ((M1 60 41) - 1) = (-1))
                show xa_wk post (some (0, 0, 0, 0, 0)) (xa_up M1 60 42 ((M1 60 41) - 1))
                exact xa_wkI 0 rfl (fun _ _ => by omega) (k _ _ (xm_f2_u (by omega) hf) (by first | omega | (simp [xa_up]; omega)) (by first | omega | (simp [xa_up]; omega)) (by first | omega | (simp [xa_up]; omega)))
              · intro (c6 : ((M1 60 41) - 1) = (-1))
                show xa_wk post (some (0, 0, 0, 9999, v)) (xa_up M1 60 42 ((M1 60 41) - 1))
                exact xa_wkI v rfl (fun _ _ => by omega) (k _ _ (xm_f2_u (by omega) hf) (by first | omega | (simp [xa_up]; omega)) (by first | omega | (simp [xa_up]; omega)) (by first | omega | (simp [xa_up]; omega)))
            · intro (f5 : ¬ (M1 60 42) = -1)
              refine And.intro ?_ ?_
              · intro (c7 : ¬ (M1 60 42) = (-1))
                show xa_wk post (some (0, 0, 0, 0, 0)) M1
                exact xa_wkI 0 rfl (fun _ _ => by omega) (k _ _ hf (by first | omega | (simp [xa_up]; omega)) (by first | omega | (simp [xa_up]; omega)) (by first | omega | (simp [xa_up]; omega)))
              · intro (c7 : (M1 60 42) = (-1))
                show xa_wk post (some (0, 0, 0, 9999, v)) M1
                exact xa_wkI v rfl (fun _ _ => by omega) (k _ _ hf (by first | omega | (simp [xa_up]; omega)) (by first | omega | (simp [xa_up]; omega)) (by first | omega | (simp [xa_up]; omega)))
        · intro (c2 : (M1 60 41) = f)
          show xa_C xm_I A h0 _ 255 [(2, 60, 0, 0, 0), (0, 0, 0, 100, M1 60 41)] M1 _
          refine ct_fault trivial ?_ ?_
          · intro (f8 : (M1 60 42) = -1)
            refine And.intro ?_ ?_
            · intro (c9 : ¬ (M1 60 41) = (-1))
              show xa_wk post (some (0, 0, 0, 0, 0)) (xa_up M1 60 42 (M1 60 41))
              exact xa_wkI 0 rfl (fun _ _ => by omega) (k _ _ (xm_f2_u (by omega) hf) (by first | omega | (simp [xa_up]; omega)) (by first | omega | (simp [xa_up]; omega)) (by first | omega | (simp [xa_up]; omega)))
            · intro (c9 : (M1 60 41) = (-1))
              show xa_wk post (some (0, 0, 0, 9999, v)) (xa_up M1 60 42 (M1 60 41))
              exact xa_wkI v rfl (fun _ _ => by omega) (k _ _ (xm_f2_u (by omega) hf) (by first | omega | (simp [xa_up]; omega)) (by first | omega | (simp [xa_up]; omega)) (by first | omega | (simp [xa_up]; omega)))
          · intro (f8 : ¬ (M1 60 42) = -1)
            refine And.intro ?_ ?_
            · intro (c10 : ¬ (M1 60 42) = (-1))
              show xa_wk post (some (0, 0, 0, 0, 0)) M1
              exact xa_wkI 0 rfl (fun _ _ => by omega) (k _ _ hf (by first | omega | (simp [xa_up]; omega)) (by first | omega | (simp [xa_up]; omega)) (by first | omega | (simp [xa_up]; omega)))
            · intro (c10 : (M1 60 42) = (-1))
              show xa_wk post (some (0, 0, 0, 9999, v)) M1
              exact xa_wkI v rfl (fun _ _ => by omega) (k _ _ hf (by first | omega | (simp [xa_up]; omega)) (by first | omega | (simp [xa_up]; omega)) (by first | omega | (simp [xa_up]; omega)))
      · intro (c1 : (M1 60 41) < (f + 4))
        show xa_C xm_I A h0 _ 254 [(2, 60, 0, 0, 0)] M1 _
        refine ct_here (fun h11 eh11 => ?_)
        replace eh11 : ((M1 60 41) < (M1 60 40) ∧ (M1 60 41) < 60 ∧ h11 = M1 73 (M1 60 41)) ∨ (¬ ((M1 60 41) < (M1 60 40) ∧ (M1 60 41) < 60) ∧ h11 = -1) := eh11
        show xa_C xm_I A h0 _ 214 [(0, 0, (-128), 127, h11), (0, 0, 48, 48, 48), (0, 0, 57, 57, 57)] M1 _
        refine ct_in ?_ ?_
        · intro (i12 : 48 ≤ h11 ∧ h11 ≤ 57)
          show xa_C xm_I A h0 _ 254 [(2, 60, 0, 0, 0)] M1 _
          refine ct_here (fun h13 eh13 => ?_)
          replace eh13 : ((M1 60 41) < (M1 60 40) ∧ (M1 60 41) < 60 ∧ h13 = M1 73 (M1 60 41)) ∨ (¬ ((M1 60 41) < (M1 60 40) ∧ (M1 60 41) < 60) ∧ h13 = -1) := eh13
          refine And.intro (show 0 ≤ ((M1 60 41) + 1) ∧ ((M1 60 41) + 1) ≤ 100 by omega) ?_
          show Q 17 [(2, (0, 0, (-176), 100069, ((10 * v) + h13) - 48)), (1, (0, 0, 0, 100, f)), (0, (2, 60, 0, 0, 0))] [] (xa_up M1 60 41 ((M1 60 41) + 1))
          refine hgo.2.1 17 _ [(2, (0, 0, 0, 9999, ((10 * v) + h13) - 48)), (1, (0, 0, 0, 100, f)), (0, (2, 60, 0, 0, 0))] _ _ (xa_subI rfl rfl (fun _ _ _ _ => by omega) (xa_subI rfl rfl (fun _ _ _ _ => by omega) (xa_subR rfl xa_sub0))) ?_
          exact ih ((((10 * v) + h13) - 48)) f (xa_up M1 60 41 ((M1 60 41) + 1)) (xm_f2_u (by omega) hf) (by omega) (by first | omega | (simp [xa_up]; omega)) (by first | omega | (simp [xa_up]; omega)) (by first | omega | (simp [xa_up]; omega)) (by first | omega | (simp [xa_up]; omega)) (by first | omega | (simp [xa_up]; omega))
        · intro (i12 : ¬ (48 ≤ h11 ∧ h11 ≤ 57))
          refine And.intro ?_ ?_
          · intro (c14 : ¬ (M1 60 41) = f)
            show xa_C xm_I A h0 _ 214 [(0, 0, 0, 9999, v), (0, 0, 1, 1, 1), (0, 0, 2000, 2000, 2000)] M1 _
            refine ct_in ?_ ?_
            · intro (i15 : 1 ≤ v ∧ v ≤ 2000)
              refine And.intro ?_ ?_
              · intro (c16 : ¬ (M1 60 42) = (-1))
                show xa_wk post (some (0, 0, 0, 0, 0)) M1
                exact xa_wkI 0 rfl (fun _ _ => by omega) (k _ _ hf (by first | omega | (simp [xa_up]; omega)) (by first | omega | (simp [xa_up]; omega)) (by first | omega | (simp [xa_up]; omega)))
              · intro (c16 : (M1 60 42) = (-1))
                show xa_wk post (some (0, 0, 0, 9999, v)) M1
                exact xa_wkI v rfl (fun _ _ => by omega) (k _ _ hf (by first | omega | (simp [xa_up]; omega)) (by first | omega | (simp [xa_up]; omega)) (by first | omega | (simp [xa_up]; omega)))
            · intro (i15 : ¬ (1 ≤ v ∧ v ≤ 2000))
              show xa_C xm_I A h0 _ 255 [(2, 60, 0, 0, 0), (0, 0, (-1), 99, (M1 60 41) - 1)] M1 _
              refine ct_fault trivial ?_ ?_
              · intro (f17 : (M1 60 42) = -1)
                refine And.intro ?_ ?_
                · intro (c18 : ¬ ((M1 60 41) - 1) = (-1))
                  show xa_wk post (some (0, 0, 0, 0, 0)) (xa_up M1 60 42 ((M1 60 41) - 1))
                  exact xa_wkI 0 rfl (fun _ _ => by omega) (k _ _ (xm_f2_u (by omega) hf) (by first | omega | (simp [xa_up]; omega)) (by first | omega | (simp [xa_up]; omega)) (by first | omega | (simp [xa_up]; omega)))
                · intro (c18 : ((M1 60 41) - 1) = (-1))
                  show xa_wk post (some (0, 0, 0, 9999, v)) (xa_up M1 60 42 ((M1 60 41) - 1))
                  exact xa_wkI v rfl (fun _ _ => by omega) (k _ _ (xm_f2_u (by omega) hf) (by first | omega | (simp [xa_up]; omega)) (by first | omega | (simp [xa_up]; omega)) (by first | omega | (simp [xa_up]; omega)))
              · intro (f17 : ¬ (M1 60 42) = -1)
                refine And.intro ?_ ?_
                · intro (c19 : ¬ (M1 60 42) = (-1))
                  show xa_wk post (some (0, 0, 0, 0, 0)) M1
                  exact xa_wkI 0 rfl (fun _ _ => by omega) (k _ _ hf (by first | omega | (simp [xa_up]; omega)) (by first | omega | (simp [xa_up]; omega)) (by first | omega | (simp [xa_up]; omega)))
                · intro (c19 : (M1 60 42) = (-1))
                  show xa_wk post (some (0, 0, 0, 9999, v)) M1
                  exact xa_wkI v rfl (fun _ _ => by omega) (k _ _ hf (by first | omega | (simp [xa_up]; omega)) (by first | omega | (simp [xa_up]; omega)) (by first | omega | (simp [xa_up]; omega)))
          · intro (c14 : (M1 60 41) = f)
            show xa_C xm_I A h0 _ 255 [(2, 60, 0, 0, 0), (0, 0, 0, 100, M1 60 41)] M1 _
            refine ct_fault trivial ?_ ?_
            · intro (f20 : (M1 60 42) = -1)
              refine And.intro ?_ ?_
              · intro (c21 : ¬ (M1 60 41) = (-1))
                show xa_wk post (some (0, 0, 0, 0, 0)) (xa_up M1 60 42 (M1 60 41))
                exact xa_wkI 0 rfl (fun _ _ => by omega) (k _ _ (xm_f2_u (by omega) hf) (by first | omega | (simp [xa_up]; omega)) (by first | omega | (simp [xa_up]; omega)) (by first | omega | (simp [xa_up]; omega)))
              · intro (c21 : (M1 60 41) = (-1))
                show xa_wk post (some (0, 0, 0, 9999, v)) (xa_up M1 60 42 (M1 60 41))
                exact xa_wkI v rfl (fun _ _ => by omega) (k _ _ (xm_f2_u (by omega) hf) (by first | omega | (simp [xa_up]; omega)) (by first | omega | (simp [xa_up]; omega)) (by first | omega | (simp [xa_up]; omega)))
            · intro (f20 : ¬ (M1 60 42) = -1)
              refine And.intro ?_ ?_
              · intro (c22 : ¬ (M1 60 42) = (-1))
                show xa_wk post (some (0, 0, 0, 0, 0)) M1
                exact xa_wkI 0 rfl (fun _ _ => by omega) (k _ _ hf (by first | omega | (simp [xa_up]; omega)) (by first | omega | (simp [xa_up]; omega)) (by first | omega | (simp [xa_up]; omega)))
              · intro (c22 : (M1 60 42) = (-1))
                show xa_wk post (some (0, 0, 0, 9999, v)) M1
                exact xa_wkI v rfl (fun _ _ => by omega) (k _ _ hf (by first | omega | (simp [xa_up]; omega)) (by first | omega | (simp [xa_up]; omega)) (by first | omega | (simp [xa_up]; omega)))
  refine hgo.1 14 [17] 0 _ _ _ ?_
  refine And.intro ?_ ?_
  · intro (c1 : (M 60 42) = (-1))
    show Q 17 [(2, (0, 0, 0, 0, 0)), (1, (0, 0, 0, 100, M 60 41)), (0, (2, 60, 0, 0, 0))] [] M
    refine hgo.2.1 17 _ [(2, (0, 0, 0, 9999, 0)), (1, (0, 0, 0, 100, M 60 41)), (0, (2, 60, 0, 0, 0))] _ _ (xa_subI rfl rfl (fun _ _ _ _ => by omega) (xa_subI rfl rfl (fun _ _ _ _ => by omega) (xa_subR rfl xa_sub0))) ?_
    exact loop 5 0 (M 60 41) M (fun _ _ _ => rfl) (by omega) (by omega) (by omega) (by omega) (by omega) (by omega)
  · intro (c1 : ¬ (M 60 42) = (-1))
    show xa_wk post (some (0, 0, 0, 0, 0)) M
    exact xa_wkI 0 rfl (fun _ _ => by omega) (k _ _ (fun _ _ _ => rfl) (by omega) (by omega) (by omega))
theorem ms_book {A : Nat → Nat} {h0 : g_H} {d : Nat} {M : xa_M} {post : Option xa_V → xa_M → Prop} (hI : xm_Inv M) (k : ∀ (o : Option xa_V) (M1 : xa_M), xm_Inv M1 → post o M1) : xa_C xm_I A h0 (d + 3) 252 [(2, 60, 0, 0, 0)] M post := by
  refine xa_meth (Q0 := (4, 1, false, 0, 0, 12)) (by decide +kernel) ⟨rfl, rfl⟩ (full := s_c_252) rfl rfl ?_
  intro hM hv Q hgo
  have b18 := xm_f18 hM
  have copy : ∀ (u : Int), 0 ≤ u → u ≤ 8 → ∀ (M0 : xa_M), xm_bkc M M0 u 0 → Q 216 [(3, (0, 0, 0, 8, 0)), (1, (0, 0, 0, 8, u)), (0, (2, 60, 0, 0, 0))] [] M0 := by
    intro u n0 n8
    have loopC : ∀ (n : Nat) (p : Int) (M1 : xa_M), 0 ≤ p → p ≤ u → xm_bkc M M1 u p → u - p < (n : Int) → Q 216 [(3, (0, 0, 0, 8, p)), (1, (0, 0, 0, 8, u)), (0, (2, 60, 0, 0, 0))] [] M1 := by
      intro n
      induction n with
      | zero => intro p M1 h1 h2 hk hms; omega
      | succ n ih =>
        intro p M1 h1 h2 hk hms
        refine hgo.1 34 [43, 216] 216 _ _ _ ?_
        refine And.intro ?_ ?_
        · intro (c1 : u ≤ p)
          show post (some (0, 0, 0, 8, u)) M1
          rw [show p = u by omega] at hk
          exact k _ _ (xm_bkc_I hI hk)
        · intro (c1 : p < u)
          refine And.intro (show 0 ≤ p ∧ p < 8 by omega) ?_
          refine And.intro (show 0 ≤ p ∧ p < 8 by omega) ?_
          refine And.intro (show 0 ≤ p ∧ p < 8 by omega) ?_
          refine And.intro (show 0 ≤ p ∧ p < 8 by omega) ?_
          refine And.intro (show 0 ≤ p ∧ p < 8 by omega) ?_
          refine And.intro (show 0 ≤ p ∧ p < 8 by omega) ?_
          show Q 216 [(3, (0, 0, 1, 9, p + 1)), (1, (0, 0, 0, 8, u)), (0, (2, 60, 0, 0, 0))] [] (xa_up (xa_up (xa_up M1 70 p (M1 88 p)) 71 p (M1 89 p)) 72 p (M1 90 p))
          refine hgo.2.1 216 _ [(3, (0, 0, 0, 8, p + 1)), (1, (0, 0, 0, 8, u)), (0, (2, 60, 0, 0, 0))] _ _ (xa_subI rfl rfl (fun _ _ _ _ => by omega) (xa_subI rfl rfl (fun _ _ _ _ => by omega) (xa_subR rfl xa_sub0))) ?_
          exact ih (p + 1) (xa_up (xa_up (xa_up M1 70 p (M1 88 p)) 71 p (M1 89 p)) 72 p (M1 90 p)) (by omega) (by omega) ⟨fun q j hn h4 h5 => by
            rw [xa_up_ne (by omega), xa_up_ne (by omega), xa_up_ne (by omega)]
            exact hk.1 q j hn h4 h5, by
            rw [xa_up_ne (by omega), xa_up_ne (by omega), xa_up_ne (by omega)]
            exact hk.2.1, fun x x0 x1 => by
            have f := hk.2.2.1 x x0 x1
            exact ⟨by
              rw [xa_up_ne (by omega), xa_up_ne (by omega), xa_up_ne (by omega)]
              exact f.1, by
              rw [xa_up_ne (by omega), xa_up_ne (by omega), xa_up_ne (by omega)]
              exact f.2⟩, fun x x0 x1 => by
            by_cases e : x = p
            · rw [e]
              have f := hk.2.2.1 p h1 (by omega)
              exact ⟨by
                rw [xa_up_ne (by omega), xa_up_ne (by omega), xa_up_hit (by omega)]
                exact f.1, by
                rw [xa_up_ne (by omega), xa_up_hit (by omega)]
                omega⟩
            · have f := hk.2.2.2 x x0 (by omega)
              exact ⟨by
                rw [xa_up_ne (by omega), xa_up_ne (by omega), xa_up_ne (by omega)]
                exact f.1, by
                rw [xa_up_ne (by omega), xa_up_ne (by omega), xa_up_ne (by omega)]
                exact f.2⟩⟩ (by omega)
    intro M0 hk
    exact hgo.2.1 216 _ [(3, (0, 0, 0, 8, 0)), (1, (0, 0, 0, 8, u)), (0, (2, 60, 0, 0, 0))] _ _ (xa_subI rfl rfl (fun _ _ _ _ => by omega) (xa_subI rfl rfl (fun _ _ _ _ => by omega) (xa_subR rfl xa_sub0))) (loopC 9 0 M0 (by omega) (by omega) hk (by omega))
  have loop : ∀ (n : Nat) (u z : Int) (M1 : xa_M), 0 ≤ u → u ≤ 8 → 0 ≤ z → z ≤ 1 → (z = 1 → u ≤ 7) → xm_c18 M M1 → M1 60 41 ≤ 60 → M1 60 42 = -1 → (∀ x, 0 ≤ x → x < u → 1 ≤ M1 88 x ∧ 1 ≤ M1 89 x) → 8 - u < (n : Int) → Q 43 [(2, (0, 0, 0, 1, z)), (1, (0, 0, 0, 8, u)), (0, (2, 60, 0, 0, 0))] [] M1 := by
    intro n
    induction n with
    | zero => intro u z M1 h1 h2 z0 z1 hz hs ha hw he hms; omega
    | succ n ih =>
      intro u z M1 h1 h2 z0 z1 hz hs ha hw he hms
      refine hgo.2.2 _ _ _ _ (fun hM1 _ => ?_)
      have b41 := xm_f41 hM1
      refine hgo.1 80 [43, 216] 43 _ _ _ ?_
      refine And.intro ?_ ?_
      · intro (c1 : z = 0)
        refine And.intro ?_ ?_
        · intro (c2 : (M1 60 40) ≤ (M1 60 41))
          show Q 216 [(3, (0, 0, 0, 0, 0)), (2, (0, 0, 0, 1, z)), (1, (0, 0, 0, 8, u)), (0, (2, 60, 0, 0, 0))] [] (xa_up M1 60 11 u)
          refine hgo.2.1 216 _ [(3, (0, 0, 0, 8, 0)), (1, (0, 0, 0, 8, u)), (0, (2, 60, 0, 0, 0))] _ _ (xa_subI rfl rfl (fun _ _ _ _ => by omega) (xa_subI rfl rfl (fun _ _ _ _ => by omega) (xa_subR rfl xa_sub0))) ?_
          exact copy u h1 h2 (xa_up M1 60 11 u) ⟨fun q j hn h4 h5 => by
            rw [xa_up_ne (by omega)]
            exact hs q j hn (by omega), xa_up_eq, fun x x0 x1 => by
            have f := he x x0 x1
            exact ⟨by
              rw [xa_up_ne (by omega)]
              exact f.1, by
              rw [xa_up_ne (by omega)]
              exact f.2⟩, fun x x0 x1 => by omega⟩
        · intro (c2 : (M1 60 41) < (M1 60 40))
          show post (some (0, 0, (-101), (-1), (-1) - (M1 60 41))) M1
          exact k _ _ (xm_c18_I hI hs)
      · intro (c1 : ¬ z = 0)
        show xa_C xm_I A h0 _ 253 [(2, 60, 0, 0, 0)] M1 _
        refine xa_C_mok (ct_number (fun r3 N3 hf3 br3 ba3 bw3 hN3 => ?_))
        replace ba3 : (M1 60 41) ≤ N3 60 41 ∧ (N3 60 41 = (M1 60 41) ∨ N3 60 41 ≤ 60) := ba3
        replace bw3 : N3 60 42 = -1 → (M1 60 42) = -1 ∧ 1 ≤ r3 := bw3
        have tN3 := xm_f41 hN3
        have e403 : N3 60 40 = (M1 60 40) := hf3 60 40 (by omega)
        refine And.intro (show 0 ≤ u ∧ u < 8 by omega) ?_
        show xa_C xm_I A h0 _ 254 [(2, 60, 0, 0, 0)] (xa_up N3 88 u r3) _
        refine ct_here (fun h4 eh4 => ?_)
        replace eh4 : ((N3 60 41) < (N3 60 40) ∧ (N3 60 41) < 60 ∧ h4 = N3 73 (N3 60 41)) ∨ (¬ ((N3 60 41) < (N3 60 40) ∧ (N3 60 41) < 60) ∧ h4 = -1) := eh4
        refine And.intro ?_ ?_
        · intro (c5 : h4 = 58)
          refine And.intro (show 0 ≤ ((N3 60 41) + 1) ∧ ((N3 60 41) + 1) ≤ 100 by omega) ?_
          show xa_C xm_I A h0 _ 253 [(2, 60, 0, 0, 0)] (xa_up (xa_up N3 88 u r3) 60 41 ((N3 60 41) + 1)) _
          refine xa_C_mok (ct_number (fun r6 N6 hf6 br6 ba6 bw6 hN6 => ?_))
          replace ba6 : ((N3 60 41) + 1) ≤ N6 60 41 ∧ (N6 60 41 = ((N3 60 41) + 1) ∨ N6 60 41 ≤ 60) := ba6
          replace bw6 : N6 60 42 = -1 → (N3 60 42) = -1 ∧ 1 ≤ r6 := bw6
          have tN6 := xm_f41 hN6
          have e406 : N6 60 40 = (N3 60 40) := hf6 60 40 (by omega)
          refine And.intro (show 0 ≤ u ∧ u < 8 by omega) ?_
          refine And.intro (show 0 ≤ u ∧ u < 8 by omega) ?_
          refine And.intro ?_ ?_
          · intro (c7 : (N6 60 42) = (-1))
            show xa_C xm_I A h0 _ 254 [(2, 60, 0, 0, 0)] (xa_up (xa_up N6 89 u r6) 90 u (-1)) _
            refine ct_here (fun h8 eh8 => ?_)
            replace eh8 : ((N6 60 41) < (N6 60 40) ∧ (N6 60 41) < 60 ∧ h8 = N6 73 (N6 60 41)) ∨ (¬ ((N6 60 41) < (N6 60 40) ∧ (N6 60 41) < 60) ∧ h8 = -1) := eh8
            show xa_C xm_I A h0 _ 214 [(0, 0, (-128), 127, h8), (0, 0, 97, 97, 97), (0, 0, 122, 122, 122)] (xa_up (xa_up N6 89 u r6) 90 u (-1)) _
            refine ct_in ?_ ?_
            · intro (i9 : 97 ≤ h8 ∧ h8 ≤ 122)
              show xa_C xm_I A h0 _ 254 [(2, 60, 0, 0, 0)] (xa_up (xa_up N6 89 u r6) 90 u (-1)) _
              refine ct_here (fun h10 eh10 => ?_)
              replace eh10 : ((N6 60 41) < (N6 60 40) ∧ (N6 60 41) < 60 ∧ h10 = N6 73 (N6 60 41)) ∨ (¬ ((N6 60 41) < (N6 60 40) ∧ (N6 60 41) < 60) ∧ h10 = -1) := eh10
              refine And.intro (show 0 ≤ u ∧ u < 8 by omega) ?_
              refine And.intro (show 0 ≤ ((N6 60 41) + 1) ∧ ((N6 60 41) + 1) ≤ 100 by omega) ?_
              show xa_C xm_I A h0 _ 254 [(2, 60, 0, 0, 0)] (xa_up (xa_up (xa_up (xa_up N6 89 u r6) 90 u (-1)) 90 u h10) 60 41 ((N6 60 41) + 1)) _
              refine ct_here (fun h11 eh11 => ?_)
              replace eh11 : (((N6 60 41) + 1) < (N6 60 40) ∧ ((N6 60 41) + 1) < 60 ∧ h11 = N6 73 ((N6 60 41) + 1)) ∨ (¬ (((N6 60 41) + 1) < (N6 60 40) ∧ ((N6 60 41) + 1) < 60) ∧ h11 = -1) := eh11
              refine And.intro ?_ ?_
              · intro (c12 : ¬ h11 = 59)
                show Q 43 [(2, (0, 0, 0, 0, 0)), (1, (0, 0, 1, 9, u + 1)), (0, (2, 60, 0, 0, 0))] [] (xa_up (xa_up (xa_up (xa_up N6 89 u r6) 90 u (-1)) 90 u h10) 60 41 ((N6 60 41) + 1))
                refine hgo.2.1 43 _ [(2, (0, 0, 0, 1, 0)), (1, (0, 0, 0, 8, u + 1)), (0, (2, 60, 0, 0, 0))] _ _ (xa_subI rfl rfl (fun _ _ _ _ => by omega) (xa_subI rfl rfl (fun _ _ _ _ => by omega) (xa_subR rfl xa_sub0))) ?_
                exact ih (u + 1) 0 (xa_up (xa_up (xa_up (xa_up N6 89 u r6) 90 u (-1)) 90 u h10) 60 41 ((N6 60 41) + 1)) (by omega) (by omega) (by omega) (by omega) (by omega) (xm_c18_u (by omega) (xm_c18_u (by omega) (xm_c18_u (by omega) (xm_c18_u (by omega) (xm_c18_f (xm_c18_u (by omega) (xm_c18_u (by omega) (xm_c18_f hs hf3))) hf6))))) (by first | omega | (simp [xa_up]; omega)) (by first | omega | (simp [xa_up]; omega)) (fun x x0 x1 => by
                  by_cases e : x = u
                  · rw [e]
                    exact ⟨by
                      rw [xa_up_ne (by omega), xa_up_ne (by omega), xa_up_ne (by omega), xa_up_ne (by omega), hf6 88 _ (by omega), xa_up_ne (by omega), xa_up_hit (by omega)]
                      omega, by
                      rw [xa_up_ne (by omega), xa_up_ne (by omega), xa_up_ne (by omega), xa_up_hit (by omega)]
                      omega⟩
                  · have f := he x x0 (by omega)
                    exact ⟨by
                      rw [xa_up_ne (by omega), xa_up_ne (by omega), xa_up_ne (by omega), xa_up_ne (by omega), hf6 88 _ (by omega), xa_up_ne (by omega), xa_up_ne (by omega), hf3 88 _ (by omega)]
                      exact f.1, by
                      rw [xa_up_ne (by omega), xa_up_ne (by omega), xa_up_ne (by omega), xa_up_ne (by omega), hf6 89 _ (by omega), xa_up_ne (by omega), xa_up_ne (by omega), hf3 89 _ (by omega)]
                      exact f.2⟩) (by omega)
              · intro (c12 : h11 = 59)
                refine And.intro ?_ ?_
                · intro (c13 : 8 ≤ (u + 1))
                  show Q 43 [(2, (0, 0, 0, 0, 0)), (1, (0, 0, 1, 9, u + 1)), (0, (2, 60, 0, 0, 0))] [] (xa_up (xa_up (xa_up (xa_up N6 89 u r6) 90 u (-1)) 90 u h10) 60 41 ((N6 60 41) + 1))
                  refine hgo.2.1 43 _ [(2, (0, 0, 0, 1, 0)), (1, (0, 0, 0, 8, u + 1)), (0, (2, 60, 0, 0, 0))] _ _ (xa_subI rfl rfl (fun _ _ _ _ => by omega) (xa_subI rfl rfl (fun _ _ _ _ => by omega) (xa_subR rfl xa_sub0))) ?_
                  exact ih (u + 1) 0 (xa_up (xa_up (xa_up (xa_up N6 89 u r6) 90 u (-1)) 90 u h10) 60 41 ((N6 60 41) + 1)) (by omega) (by omega) (by omega) (by omega) (by omega) (xm_c18_u (by omega) (xm_c18_u (by omega) (xm_c18_u (by omega) (xm_c18_u (by omega) (xm_c18_f (xm_c18_u (by omega) (xm_c18_u (by omega) (xm_c18_f hs hf3))) hf6))))) (by first | omega | (simp [xa_up]; omega)) (by first | omega | (simp [xa_up]; omega)) (fun x x0 x1 => by
                    by_cases e : x = u
                    · rw [e]
                      exact ⟨by
                        rw [xa_up_ne (by omega), xa_up_ne (by omega), xa_up_ne (by omega), xa_up_ne (by omega), hf6 88 _ (by omega), xa_up_ne (by omega), xa_up_hit (by omega)]
                        omega, by
                        rw [xa_up_ne (by omega), xa_up_ne (by omega), xa_up_ne (by omega), xa_up_hit (by omega)]
                        omega⟩
                    · have f := he x x0 (by omega)
                      exact ⟨by
                        rw [xa_up_ne (by omega), xa_up_ne (by omega), xa_up_ne (by omega), xa_up_ne (by omega), hf6 88 _ (by omega), xa_up_ne (by omega), xa_up_ne (by omega), hf3 88 _ (by omega)]
                        exact f.1, by
                        rw [xa_up_ne (by omega), xa_up_ne (by omega), xa_up_ne (by omega), xa_up_ne (by omega), hf6 89 _ (by omega), xa_up_ne (by omega), xa_up_ne (by omega), hf3 89 _ (by omega)]
                        exact f.2⟩) (by omega)
                · intro (c13 : (u + 1) < 8)
                  refine And.intro (show 0 ≤ (((N6 60 41) + 1) + 1) ∧ (((N6 60 41) + 1) + 1) ≤ 100 by omega) ?_
                  show Q 43 [(2, (0, 0, 1, 1, 1)), (1, (0, 0, 1, 9, u + 1)), (0, (2, 60, 0, 0, 0))] [] (xa_up (xa_up (xa_up (xa_up (xa_up N6 89 u r6) 90 u (-1)) 90 u h10) 60 41 ((N6 60 41) + 1)) 60 41 (((N6 60 41) + 1) + 1))
                  refine hgo.2.1 43 _ [(2, (0, 0, 0, 1, 1)), (1, (0, 0, 0, 8, u + 1)), (0, (2, 60, 0, 0, 0))] _ _ (xa_subI rfl rfl (fun _ _ _ _ => by omega) (xa_subI rfl rfl (fun _ _ _ _ => by omega) (xa_subR rfl xa_sub0))) ?_
                  exact ih (u + 1) 1 (xa_up (xa_up (xa_up (xa_up (xa_up N6 89 u r6) 90 u (-1)) 90 u h10) 60 41 ((N6 60 41) + 1)) 60 41 (((N6 60 41) + 1) + 1)) (by omega) (by omega) (by omega) (by omega) (by omega) (xm_c18_u (by omega) (xm_c18_u (by omega) (xm_c18_u (by omega) (xm_c18_u (by omega) (xm_c18_u (by omega) (xm_c18_f (xm_c18_u (by omega) (xm_c18_u (by omega) (xm_c18_f hs hf3))) hf6)))))) (by first | omega | (simp [xa_up]; omega)) (by first | omega | (simp [xa_up]; omega)) (fun x x0 x1 => by
                    by_cases e : x = u
                    · rw [e]
                      exact ⟨by
                        rw [xa_up_ne (by omega), xa_up_ne (by omega), xa_up_ne (by omega), xa_up_ne (by omega), xa_up_ne (by omega), hf6 88 _ (by omega), xa_up_ne (by omega), xa_up_hit (by omega)]
                        omega, by
                        rw [xa_up_ne (by omega), xa_up_ne (by omega), xa_up_ne (by omega), xa_up_ne (by omega), xa_up_hit (by omega)]
                        omega⟩
                    · have f := he x x0 (by omega)
                      exact ⟨by
                        rw [xa_up_ne (by omega), xa_up_ne (by omega), xa_up_ne (by omega), xa_up_ne (by omega), xa_up_ne (by omega), hf6 88 _ (by omega), xa_up_ne (by omega), xa_up_ne (by omega), hf3 88 _ (by omega)]
                        exact f.1, by
                        rw [xa_up_ne (by omega), xa_up_ne (by omega), xa_up_ne (by omega), xa_up_ne (by omega), xa_up_ne (by omega), hf6 89 _ (by omega), xa_up_ne (by omega), xa_up_ne (by omega), hf3 89 _ (by omega)]
                        exact f.2⟩) (by omega)
            · intro (i9 : ¬ (97 ≤ h8 ∧ h8 ≤ 122))
              show xa_C xm_I A h0 _ 254 [(2, 60, 0, 0, 0)] (xa_up (xa_up N6 89 u r6) 90 u (-1)) _
              refine ct_here (fun h14 eh14 => ?_)
              replace eh14 : ((N6 60 41) < (N6 60 40) ∧ (N6 60 41) < 60 ∧ h14 = N6 73 (N6 60 41)) ∨ (¬ ((N6 60 41) < (N6 60 40) ∧ (N6 60 41) < 60) ∧ h14 = -1) := eh14
              refine And.intro ?_ ?_
              · intro (c15 : ¬ h14 = 59)
                show Q 43 [(2, (0, 0, 0, 0, 0)), (1, (0, 0, 1, 9, u + 1)), (0, (2, 60, 0, 0, 0))] [] (xa_up (xa_up N6 89 u r6) 90 u (-1))
                refine hgo.2.1 43 _ [(2, (0, 0, 0, 1, 0)), (1, (0, 0, 0, 8, u + 1)), (0, (2, 60, 0, 0, 0))] _ _ (xa_subI rfl rfl (fun _ _ _ _ => by omega) (xa_subI rfl rfl (fun _ _ _ _ => by omega) (xa_subR rfl xa_sub0))) ?_
                exact ih (u + 1) 0 (xa_up (xa_up N6 89 u r6) 90 u (-1)) (by omega) (by omega) (by omega) (by omega) (by omega) (xm_c18_u (by omega) (xm_c18_u (by omega) (xm_c18_f (xm_c18_u (by omega) (xm_c18_u (by omega) (xm_c18_f hs hf3))) hf6))) (by first | omega | (simp [xa_up]; omega)) (by first | omega | (simp [xa_up]; omega)) (fun x x0 x1 => by
                  by_cases e : x = u
                  · rw [e]
                    exact ⟨by
                      rw [xa_up_ne (by omega), xa_up_ne (by omega), hf6 88 _ (by omega), xa_up_ne (by omega), xa_up_hit (by omega)]
                      omega, by
                      rw [xa_up_ne (by omega), xa_up_hit (by omega)]
                      omega⟩
                  · have f := he x x0 (by omega)
                    exact ⟨by
                      rw [xa_up_ne (by omega), xa_up_ne (by omega), hf6 88 _ (by omega), xa_up_ne (by omega), xa_up_ne (by omega), hf3 88 _ (by omega)]
                      exact f.1, by
                      rw [xa_up_ne (by omega), xa_up_ne (by omega), hf6 89 _ (by omega), xa_up_ne (by omega), xa_up_ne (by omega), hf3 89 _ (by omega)]
                      exact f.2⟩) (by omega)
              · intro (c15 : h14 = 59)
                refine And.intro ?_ ?_
                · intro (c16 : 8 ≤ (u + 1))
                  show Q 43 [(2, (0, 0, 0, 0, 0)), (1, (0, 0, 1, 9, u + 1)), (0, (2, 60, 0, 0, 0))] [] (xa_up (xa_up N6 89 u r6) 90 u (-1))
                  refine hgo.2.1 43 _ [(2, (0, 0, 0, 1, 0)), (1, (0, 0, 0, 8, u + 1)), (0, (2, 60, 0, 0, 0))] _ _ (xa_subI rfl rfl (fun _ _ _ _ => by omega) (xa_subI rfl rfl (fun _ _ _ _ => by omega) (xa_subR rfl xa_sub0))) ?_
                  exact ih (u + 1) 0 (xa_up (xa_up N6 89 u r6) 90 u (-1)) (by omega) (by omega) (by omega) (by omega) (by omega) (xm_c18_u (by omega) (xm_c18_u (by omega) (xm_c18_f (xm_c18_u (by omega) (xm_c18_u (by omega) (xm_c18_f hs hf3))) hf6))) (by first | omega | (simp [xa_up]; omega)) (by first | omega | (simp [xa_up]; omega)) (fun x x0 x1 => by
                    by_cases e : x = u
                    · rw [e]
                      exact ⟨by
                        rw [xa_up_ne (by omega), xa_up_ne (by omega), hf6 88 _ (by omega), xa_up_ne (by omega), xa_up_hit (by omega)]
                        omega, by
                        rw [xa_up_ne (by omega), xa_up_hit (by omega)]
                        omega⟩
                    · have f := he x x0 (by omega)
                      exact ⟨by
                        rw [xa_up_ne (by omega), xa_up_ne (by omega), hf6 88 _ (by omega), xa_up_ne (by omega), xa_up_ne (by omega), hf3 88 _ (by omega)]
                        exact f.1, by
                        rw [xa_up_ne (by omega), xa_up_ne (by omega), hf6 89 _ (by omega), xa_up_ne (by omega), xa_up_ne (by omega), hf3 89 _ (by omega)]
                        exact f.2⟩) (by omega)
                · intro (c16 : (u + 1) < 8)
                  refine And.intro (show 0 ≤ ((N6 60 41) + 1) ∧ ((N6 60 41) + 1) ≤ 100 by omega) ?_
                  show Q 43 [(2, (0, 0, 1, 1, 1)), (1, (0, 0, 1, 9, u + 1)), (0, (2, 60, 0, 0, 0))] [] (xa_up (xa_up (xa_up N6 89 u r6) 90 u (-1)) 60 41 ((N6 60 41) + 1))
                  refine hgo.2.1 43 _ [(2, (0, 0, 0, 1, 1)), (1, (0, 0, 0, 8, u + 1)), (0, (2, 60, 0, 0, 0))] _ _ (xa_subI rfl rfl (fun _ _ _ _ => by omega) (xa_subI rfl rfl (fun _ _ _ _ => by omega) (xa_subR rfl xa_sub0))) ?_
                  exact ih (u + 1) 1 (xa_up (xa_up (xa_up N6 89 u r6) 90 u (-1)) 60 41 ((N6 60 41) + 1)) (by omega) (by omega) (by omega) (by omega) (by omega) (xm_c18_u (by omega) (xm_c18_u (by omega) (xm_c18_u (by omega) (xm_c18_f (xm_c18_u (by omega) (xm_c18_u (by omega) (xm_c18_f hs hf3))) hf6)))) (by first | omega | (simp [xa_up]; omega)) (by first | omega | (simp [xa_up]; omega)) (fun x x0 x1 => by
                    by_cases e : x = u
                    · rw [e]
                      exact ⟨by
                        rw [xa_up_ne (by omega), xa_up_ne (by omega), xa_up_ne (by omega), hf6 88 _ (by omega), xa_up_ne (by omega), xa_up_hit (by omega)]
                        omega, by
                        rw [xa_up_ne (by omega), xa_up_ne (by omega), xa_up_hit (by omega)]
                        omega⟩
                    · have f := he x x0 (by omega)
                      exact ⟨by
                        rw [xa_up_ne (by omega), xa_up_ne (by omega), xa_up_ne (by omega), hf6 88 _ (by omega), xa_up_ne (by omega), xa_up_ne (by omega), hf3 88 _ (by omega)]
                        exact f.1, by
                        rw [xa_up_ne (by omega), xa_up_ne (by omega), xa_up_ne (by omega), hf6 89 _ (by omega), xa_up_ne (by omega), xa_up_ne (by omega), hf3 89 _ (by omega)]
                        exact f.2⟩) (by omega)
          · intro (c7 : ¬ (N6 60 42) = (-1))
            show post (some (0, 0, (-2147483648), 2147483647, (-1) - (N6 60 42))) (xa_up (xa_up N6 89 u r6) 90 u (-1))
            exact k _ _ (xm_c18_I hI (xm_c18_u (by omega) (xm_c18_u (by omega) (xm_c18_f (xm_c18_u (by omega) (xm_c18_u (by omega) (xm_c18_f hs hf3))) hf6))))
        · intro (c5 : ¬ h4 = 58)
          show xa_C xm_I A h0 _ 255 [(2, 60, 0, 0, 0), (0, 0, 0, 100, N3 60 41)] (xa_up N3 88 u r3) _
          refine ct_fault trivial ?_ ?_
          · intro (f17 : (N3 60 42) = -1)
            refine And.intro (show 0 ≤ ((N3 60 41) + 1) ∧ ((N3 60 41) + 1) ≤ 100 by omega) ?_
            show xa_C xm_I A h0 _ 253 [(2, 60, 0, 0, 0)] (xa_up (xa_up (xa_up N3 88 u r3) 60 42 (N3 60 41)) 60 41 ((N3 60 41) + 1)) _
            refine xa_C_mok (ct_number (fun r18 N18 hf18 br18 ba18 bw18 hN18 => ?_))
            replace ba18 : ((N3 60 41) + 1) ≤ N18 60 41 ∧ (N18 60 41 = ((N3 60 41) + 1) ∨ N18 60 41 ≤ 60) := ba18
            replace bw18 : N18 60 42 = -1 → (N3 60 41) = -1 ∧ 1 ≤ r18 := bw18
            have tN18 := xm_f41 hN18
            have e4018 : N18 60 40 = (N3 60 40) := hf18 60 40 (by omega)
            refine And.intro (show 0 ≤ u ∧ u < 8 by omega) ?_
            refine And.intro (show 0 ≤ u ∧ u < 8 by omega) ?_
            refine And.intro ?_ ?_
            · intro (c19 : (N18 60 42) = (-1))
              show xa_C xm_I A h0 _ 254 [(2, 60, 0, 0, 0)] (xa_up (xa_up N18 89 u r18) 90 u (-1)) _
              refine ct_here (fun h20 eh20 => ?_)
              replace eh20 : ((N18 60 41) < (N18 60 40) ∧ (N18 60 41) < 60 ∧ h20 = N18 73 (N18 60 41)) ∨ (¬ ((N18 60 41) < (N18 60 40) ∧ (N18 60 41) < 60) ∧ h20 = -1) := eh20
              show xa_C xm_I A h0 _ 214 [(0, 0, (-128), 127, h20), (0, 0, 97, 97, 97), (0, 0, 122, 122, 122)] (xa_up (xa_up N18 89 u r18) 90 u (-1)) _
              refine ct_in ?_ ?_
              · intro (i21 : 97 ≤ h20 ∧ h20 ≤ 122)
                show xa_C xm_I A h0 _ 254 [(2, 60, 0, 0, 0)] (xa_up (xa_up N18 89 u r18) 90 u (-1)) _
                refine ct_here (fun h22 eh22 => ?_)
                replace eh22 : ((N18 60 41) < (N18 60 40) ∧ (N18 60 41) < 60 ∧ h22 = N18 73 (N18 60 41)) ∨ (¬ ((N18 60 41) < (N18 60 40) ∧ (N18 60 41) < 60) ∧ h22 = -1) := eh22
                refine And.intro (show 0 ≤ u ∧ u < 8 by omega) ?_
                refine And.intro (show 0 ≤ ((N18 60 41) + 1) ∧ ((N18 60 41) + 1) ≤ 100 by omega) ?_
                show xa_C xm_I A h0 _ 254 [(2, 60, 0, 0, 0)] (xa_up (xa_up (xa_up (xa_up N18 89 u r18) 90 u (-1)) 90 u h22) 60 41 ((N18 60 41) + 1)) _
                refine ct_here (fun h23 eh23 => ?_)
                replace eh23 : (((N18 60 41) + 1) < (N18 60 40) ∧ ((N18 60 41) + 1) < 60 ∧ h23 = N18 73 ((N18 60 41) + 1)) ∨ (¬ (((N18 60 41) + 1) < (N18 60 40) ∧ ((N18 60 41) + 1) < 60) ∧ h23 = -1) := eh23
                refine And.intro ?_ ?_
                · intro (c24 : ¬ h23 = 59)
                  show Q 43 [(2, (0, 0, 0, 0, 0)), (1, (0, 0, 1, 9, u + 1)), (0, (2, 60, 0, 0, 0))] [] (xa_up (xa_up (xa_up (xa_up N18 89 u r18) 90 u (-1)) 90 u h22) 60 41 ((N18 60 41) + 1))
                  refine hgo.2.1 43 _ [(2, (0, 0, 0, 1, 0)), (1, (0, 0, 0, 8, u + 1)), (0, (2, 60, 0, 0, 0))] _ _ (xa_subI rfl rfl (fun _ _ _ _ => by omega) (xa_subI rfl rfl (fun _ _ _ _ => by omega) (xa_subR rfl xa_sub0))) ?_
                  exact ih (u + 1) 0 (xa_up (xa_up (xa_up (xa_up N18 89 u r18) 90 u (-1)) 90 u h22) 60 41 ((N18 60 41) + 1)) (by omega) (by omega) (by omega) (by omega) (by omega) (xm_c18_u (by omega) (xm_c18_u (by omega) (xm_c18_u (by omega) (xm_c18_u (by omega) (xm_c18_f (xm_c18_u (by omega) (xm_c18_u (by omega) (xm_c18_u (by omega) (xm_c18_f hs hf3)))) hf18))))) (by first | omega | (simp [xa_up]; omega)) (by first | omega | (simp [xa_up]; omega)) (fun x x0 x1 => by
                    by_cases e : x = u
                    · rw [e]
                      exact ⟨by
                        rw [xa_up_ne (by omega), xa_up_ne (by omega), xa_up_ne (by omega), xa_up_ne (by omega), hf18 88 _ (by omega), xa_up_ne (by omega), xa_up_ne (by omega), xa_up_hit (by omega)]
                        omega, by
                        rw [xa_up_ne (by omega), xa_up_ne (by omega), xa_up_ne (by omega), xa_up_hit (by omega)]
                        omega⟩
                    · have f := he x x0 (by omega)
                      exact ⟨by
                        rw [xa_up_ne (by omega), xa_up_ne (by omega), xa_up_ne (by omega), xa_up_ne (by omega), hf18 88 _ (by omega), xa_up_ne (by omega), xa_up_ne (by omega), xa_up_ne (by omega), hf3 88 _ (by omega)]
                        exact f.1, by
                        rw [xa_up_ne (by omega), xa_up_ne (by omega), xa_up_ne (by omega), xa_up_ne (by omega), hf18 89 _ (by omega), xa_up_ne (by omega), xa_up_ne (by omega), xa_up_ne (by omega), hf3 89 _ (by omega)]
                        exact f.2⟩) (by omega)
                · intro (c24 : h23 = 59)
                  refine And.intro ?_ ?_
                  · intro (c25 : 8 ≤ (u + 1))
                    show Q 43 [(2, (0, 0, 0, 0, 0)), (1, (0, 0, 1, 9, u + 1)), (0, (2, 60, 0, 0, 0))] [] (xa_up (xa_up (xa_up (xa_up N18 89 u r18) 90 u (-1)) 90 u h22) 60 41 ((N18 60 41) + 1))
                    refine hgo.2.1 43 _ [(2, (0, 0, 0, 1, 0)), (1, (0, 0, 0, 8, u + 1)), (0, (2, 60, 0, 0, 0))] _ _ (xa_subI rfl rfl (fun _ _ _ _ => by omega) (xa_subI rfl rfl (fun _ _ _ _ => by omega) (xa_subR rfl xa_sub0))) ?_
                    exact ih (u + 1) 0 (xa_up (xa_up (xa_up (xa_up N18 89 u r18) 90 u (-1)) 90 u h22) 60 41 ((N18 60 41) + 1)) (by omega) (by omega) (by omega) (by omega) (by omega) (xm_c18_u (by omega) (xm_c18_u (by omega) (xm_c18_u (by omega) (xm_c18_u (by omega) (xm_c18_f (xm_c18_u (by omega) (xm_c18_u (by omega) (xm_c18_u (by omega) (xm_c18_f hs hf3)))) hf18))))) (by first | omega | (simp [xa_up]; omega)) (by first | omega | (simp [xa_up]; omega)) (fun x x0 x1 => by
                      by_cases e : x = u
                      · rw [e]
                        exact ⟨by
                          rw [xa_up_ne (by omega), xa_up_ne (by omega), xa_up_ne (by omega), xa_up_ne (by omega), hf18 88 _ (by omega), xa_up_ne (by omega), xa_up_ne (by omega), xa_up_hit (by omega)]
                          omega, by
                          rw [xa_up_ne (by omega), xa_up_ne (by omega), xa_up_ne (by omega), xa_up_hit (by omega)]
                          omega⟩
                      · have f := he x x0 (by omega)
                        exact ⟨by
                          rw [xa_up_ne (by omega), xa_up_ne (by omega), xa_up_ne (by omega), xa_up_ne (by omega), hf18 88 _ (by omega), xa_up_ne (by omega), xa_up_ne (by omega), xa_up_ne (by omega), hf3 88 _ (by omega)]
                          exact f.1, by
                          rw [xa_up_ne (by omega), xa_up_ne (by omega), xa_up_ne (by omega), xa_up_ne (by omega), hf18 89 _ (by omega), xa_up_ne (by omega), xa_up_ne (by omega), xa_up_ne (by omega), hf3 89 _ (by omega)]
                          exact f.2⟩) (by omega)
                  · intro (c25 : (u + 1) < 8)
                    refine And.intro (show 0 ≤ (((N18 60 41) + 1) + 1) ∧ (((N18 60 41) + 1) + 1) ≤ 100 by omega) ?_
                    show Q 43 [(2, (0, 0, 1, 1, 1)), (1, (0, 0, 1, 9, u + 1)), (0, (2, 60, 0, 0, 0))] [] (xa_up (xa_up (xa_up (xa_up (xa_up N18 89 u r18) 90 u (-1)) 90 u h22) 60 41 ((N18 60 41) + 1)) 60 41 (((N18 60 41) + 1) + 1))
                    refine hgo.2.1 43 _ [(2, (0, 0, 0, 1, 1)), (1, (0, 0, 0, 8, u + 1)), (0, (2, 60, 0, 0, 0))] _ _ (xa_subI rfl rfl (fun _ _ _ _ => by omega) (xa_subI rfl rfl (fun _ _ _ _ => by omega) (xa_subR rfl xa_sub0))) ?_
                    exact ih (u + 1) 1 (xa_up (xa_up (xa_up (xa_up (xa_up N18 89 u r18) 90 u (-1)) 90 u h22) 60 41 ((N18 60 41) + 1)) 60 41 (((N18 60 41) + 1) + 1)) (by omega) (by omega) (by omega) (by omega) (by omega) (xm_c18_u (by omega) (xm_c18_u (by omega) (xm_c18_u (by omega) (xm_c18_u (by omega) (xm_c18_u (by omega) (xm_c18_f (xm_c18_u (by omega) (xm_c18_u (by omega) (xm_c18_u (by omega) (xm_c18_f hs hf3)))) hf18)))))) (by first | omega | (simp [xa_up]; omega)) (by first | omega | (simp [xa_up]; omega)) (fun x x0 x1 => by
                      by_cases e : x = u
                      · rw [e]
                        exact ⟨by
                          rw [xa_up_ne (by omega), xa_up_ne (by omega), xa_up_ne (by omega), xa_up_ne (by omega), xa_up_ne (by omega), hf18 88 _ (by omega), xa_up_ne (by omega), xa_up_ne (by omega), xa_up_hit (by omega)]
                          omega, by
                          rw [xa_up_ne (by omega), xa_up_ne (by omega), xa_up_ne (by omega), xa_up_ne (by omega), xa_up_hit (by omega)]
                          omega⟩
                      · have f := he x x0 (by omega)
                        exact ⟨by
                          rw [xa_up_ne (by omega), xa_up_ne (by omega), xa_up_ne (by omega), xa_up_ne (by omega), xa_up_ne (by omega), hf18 88 _ (by omega), xa_up_ne (by omega), xa_up_ne (by omega), xa_up_ne (by omega), hf3 88 _ (by omega)]
                          exact f.1, by
                          rw [xa_up_ne (by omega), xa_up_ne (by omega), xa_up_ne (by omega), xa_up_ne (by omega), xa_up_ne (by omega), hf18 89 _ (by omega), xa_up_ne (by omega), xa_up_ne (by omega), xa_up_ne (by omega), hf3 89 _ (by omega)]
                          exact f.2⟩) (by omega)
              · intro (i21 : ¬ (97 ≤ h20 ∧ h20 ≤ 122))
                show xa_C xm_I A h0 _ 254 [(2, 60, 0, 0, 0)] (xa_up (xa_up N18 89 u r18) 90 u (-1)) _
                refine ct_here (fun h26 eh26 => ?_)
                replace eh26 : ((N18 60 41) < (N18 60 40) ∧ (N18 60 41) < 60 ∧ h26 = N18 73 (N18 60 41)) ∨ (¬ ((N18 60 41) < (N18 60 40) ∧ (N18 60 41) < 60) ∧ h26 = -1) := eh26
                refine And.intro ?_ ?_
                · intro (c27 : ¬ h26 = 59)
                  show Q 43 [(2, (0, 0, 0, 0, 0)), (1, (0, 0, 1, 9, u + 1)), (0, (2, 60, 0, 0, 0))] [] (xa_up (xa_up N18 89 u r18) 90 u (-1))
                  refine hgo.2.1 43 _ [(2, (0, 0, 0, 1, 0)), (1, (0, 0, 0, 8, u + 1)), (0, (2, 60, 0, 0, 0))] _ _ (xa_subI rfl rfl (fun _ _ _ _ => by omega) (xa_subI rfl rfl (fun _ _ _ _ => by omega) (xa_subR rfl xa_sub0))) ?_
                  exact ih (u + 1) 0 (xa_up (xa_up N18 89 u r18) 90 u (-1)) (by omega) (by omega) (by omega) (by omega) (by omega) (xm_c18_u (by omega) (xm_c18_u (by omega) (xm_c18_f (xm_c18_u (by omega) (xm_c18_u (by omega) (xm_c18_u (by omega) (xm_c18_f hs hf3)))) hf18))) (by first | omega | (simp [xa_up]; omega)) (by first | omega | (simp [xa_up]; omega)) (fun x x0 x1 => by
                    by_cases e : x = u
                    · rw [e]
                      exact ⟨by
                        rw [xa_up_ne (by omega), xa_up_ne (by omega), hf18 88 _ (by omega), xa_up_ne (by omega), xa_up_ne (by omega), xa_up_hit (by omega)]
                        omega, by
                        rw [xa_up_ne (by omega), xa_up_hit (by omega)]
                        omega⟩
                    · have f := he x x0 (by omega)
                      exact ⟨by
                        rw [xa_up_ne (by omega), xa_up_ne (by omega), hf18 88 _ (by omega), xa_up_ne (by omega), xa_up_ne (by omega), xa_up_ne (by omega), hf3 88 _ (by omega)]
                        exact f.1, by
                        rw [xa_up_ne (by omega), xa_up_ne (by omega), hf18 89 _ (by omega), xa_up_ne (by omega), xa_up_ne (by omega), xa_up_ne (by omega), hf3 89 _ (by omega)]
                        exact f.2⟩) (by omega)
                · intro (c27 : h26 = 59)
                  refine And.intro ?_ ?_
                  · intro (c28 : 8 ≤ (u + 1))
                    show Q 43 [(2, (0, 0, 0, 0, 0)), (1, (0, 0, 1, 9, u + 1)), (0, (2, 60, 0, 0, 0))] [] (xa_up (xa_up N18 89 u r18) 90 u (-1))
                    refine hgo.2.1 43 _ [(2, (0, 0, 0, 1, 0)), (1, (0, 0, 0, 8, u + 1)), (0, (2, 60, 0, 0, 0))] _ _ (xa_subI rfl rfl (fun _ _ _ _ => by omega) (xa_subI rfl rfl (fun _ _ _ _ => by omega) (xa_subR rfl xa_sub0))) ?_
                    exact ih (u + 1) 0 (xa_up (xa_up N18 89 u r18) 90 u (-1)) (by omega) (by omega) (by omega) (by omega) (by omega) (xm_c18_u (by omega) (xm_c18_u (by omega) (xm_c18_f (xm_c18_u (by omega) (xm_c18_u (by omega) (xm_c18_u (by omega) (xm_c18_f hs hf3)))) hf18))) (by first | omega | (simp [xa_up]; omega)) (by first | omega | (simp [xa_up]; omega)) (fun x x0 x1 => by
                      by_cases e : x = u
                      · rw [e]
                        exact ⟨by
                          rw [xa_up_ne (by omega), xa_up_ne (by omega), hf18 88 _ (by omega), xa_up_ne (by omega), xa_up_ne (by omega), xa_up_hit (by omega)]
                          omega, by
                          rw [xa_up_ne (by omega), xa_up_hit (by omega)]
                          omega⟩
                      · have f := he x x0 (by omega)
                        exact ⟨by
                          rw [xa_up_ne (by omega), xa_up_ne (by omega), hf18 88 _ (by omega), xa_up_ne (by omega), xa_up_ne (by omega), xa_up_ne (by omega), hf3 88 _ (by omega)]
                          exact f.1, by
                          rw [xa_up_ne (by omega), xa_up_ne (by omega), hf18 89 _ (by omega), xa_up_ne (by omega), xa_up_ne (by omega), xa_up_ne (by omega), hf3 89 _ (by omega)]
                          exact f.2⟩) (by omega)
                  · intro (c28 : (u + 1) < 8)
                    refine And.intro (show 0 ≤ ((N18 60 41) + 1) ∧ ((N18 60 41) + 1) ≤ 100 by omega) ?_
                    show Q 43 [(2, (0, 0, 1, 1, 1)), (1, (0, 0, 1, 9, u + 1)), (0, (2, 60, 0, 0, 0))] [] (xa_up (xa_up (xa_up N18 89 u r18) 90 u (-1)) 60 41 ((N18 60 41) + 1))
                    refine hgo.2.1 43 _ [(2, (0, 0, 0, 1, 1)), (1, (0, 0, 0, 8, u + 1)), (0, (2, 60, 0, 0, 0))] _ _ (xa_subI rfl rfl (fun _ _ _ _ => by omega) (xa_subI rfl rfl (fun _ _ _ _ => by omega) (xa_subR rfl xa_sub0))) ?_
                    exact ih (u + 1) 1 (xa_up (xa_up (xa_up N18 89 u r18) 90 u (-1)) 60 41 ((N18 60 41) + 1)) (by omega) (by omega) (by omega) (by omega) (by omega) (xm_c18_u (by omega) (xm_c18_u (by omega) (xm_c18_u (by omega) (xm_c18_f (xm_c18_u (by omega) (xm_c18_u (by omega) (xm_c18_u (by omega) (xm_c18_f hs hf3)))) hf18)))) (by first | omega | (simp [xa_up]; omega)) (by first | omega | (simp [xa_up]; omega)) (fun x x0 x1 => by
                      by_cases e : x = u
                      · rw [e]
                        exact ⟨by
                          rw [xa_up_ne (by omega), xa_up_ne (by omega), xa_up_ne (by omega), hf18 88 _ (by omega), xa_up_ne (by omega), xa_up_ne (by omega), xa_up_hit (by omega)]
                          omega, by
                          rw [xa_up_ne (by omega), xa_up_ne (by omega), xa_up_hit (by omega)]
                          omega⟩
                      · have f := he x x0 (by omega)
                        exact ⟨by
                          rw [xa_up_ne (by omega), xa_up_ne (by omega), xa_up_ne (by omega), hf18 88 _ (by omega), xa_up_ne (by omega), xa_up_ne (by omega), xa_up_ne (by omega), hf3 88 _ (by omega)]
                          exact f.1, by
                          rw [xa_up_ne (by omega), xa_up_ne (by omega), xa_up_ne (by omega), hf18 89 _ (by omega), xa_up_ne (by omega), xa_up_ne (by omega), xa_up_ne (by omega), hf3 89 _ (by omega)]
                          exact f.2⟩) (by omega)
            · intro (c19 : ¬ (N18 60 42) = (-1))
              show post (some (0, 0, (-2147483648), 2147483647, (-1) - (N18 60 42))) (xa_up (xa_up N18 89 u r18) 90 u (-1))
              exact k _ _ (xm_c18_I hI (xm_c18_u (by omega) (xm_c18_u (by omega) (xm_c18_f (xm_c18_u (by omega) (xm_c18_u (by omega) (xm_c18_u (by omega) (xm_c18_f hs hf3)))) hf18))))
          · intro (f17 : ¬ (N3 60 42) = -1)
            refine And.intro (show 0 ≤ ((N3 60 41) + 1) ∧ ((N3 60 41) + 1) ≤ 100 by omega) ?_
            show xa_C xm_I A h0 _ 253 [(2, 60, 0, 0, 0)] (xa_up (xa_up N3 88 u r3) 60 41 ((N3 60 41) + 1)) _
            refine xa_C_mok (ct_number (fun r29 N29 hf29 br29 ba29 bw29 hN29 => ?_))
            replace ba29 : ((N3 60 41) + 1) ≤ N29 60 41 ∧ (N29 60 41 = ((N3 60 41) + 1) ∨ N29 60 41 ≤ 60) := ba29
            replace bw29 : N29 60 42 = -1 → (N3 60 42) = -1 ∧ 1 ≤ r29 := bw29
            have tN29 := xm_f41 hN29
            have e4029 : N29 60 40 = (N3 60 40) := hf29 60 40 (by omega)
            refine And.intro (show 0 ≤ u ∧ u < 8 by omega) ?_
            refine And.intro (show 0 ≤ u ∧ u < 8 by omega) ?_
            refine And.intro ?_ ?_
            · intro (c30 : (N29 60 42) = (-1))
              show xa_C xm_I A h0 _ 254 [(2, 60, 0, 0, 0)] (xa_up (xa_up N29 89 u r29) 90 u (-1)) _
              refine ct_here (fun h31 eh31 => ?_)
              replace eh31 : ((N29 60 41) < (N29 60 40) ∧ (N29 60 41) < 60 ∧ h31 = N29 73 (N29 60 41)) ∨ (¬ ((N29 60 41) < (N29 60 40) ∧ (N29 60 41) < 60) ∧ h31 = -1) := eh31
              show xa_C xm_I A h0 _ 214 [(0, 0, (-128), 127, h31), (0, 0, 97, 97, 97), (0, 0, 122, 122, 122)] (xa_up (xa_up N29 89 u r29) 90 u (-1)) _
              refine ct_in ?_ ?_
              · intro (i32 : 97 ≤ h31 ∧ h31 ≤ 122)
                show xa_C xm_I A h0 _ 254 [(2, 60, 0, 0, 0)] (xa_up (xa_up N29 89 u r29) 90 u (-1)) _
                refine ct_here (fun h33 eh33 => ?_)
                replace eh33 : ((N29 60 41) < (N29 60 40) ∧ (N29 60 41) < 60 ∧ h33 = N29 73 (N29 60 41)) ∨ (¬ ((N29 60 41) < (N29 60 40) ∧ (N29 60 41) < 60) ∧ h33 = -1) := eh33
                refine And.intro (show 0 ≤ u ∧ u < 8 by omega) ?_
                refine And.intro (show 0 ≤ ((N29 60 41) + 1) ∧ ((N29 60 41) + 1) ≤ 100 by omega) ?_
                show xa_C xm_I A h0 _ 254 [(2, 60, 0, 0, 0)] (xa_up (xa_up (xa_up (xa_up N29 89 u r29) 90 u (-1)) 90 u h33) 60 41 ((N29 60 41) + 1)) _
                refine ct_here (fun h34 eh34 => ?_)
                replace eh34 : (((N29 60 41) + 1) < (N29 60 40) ∧ ((N29 60 41) + 1) < 60 ∧ h34 = N29 73 ((N29 60 41) + 1)) ∨ (¬ (((N29 60 41) + 1) < (N29 60 40) ∧ ((N29 60 41) + 1) < 60) ∧ h34 = -1) := eh34
                refine And.intro ?_ ?_
                · intro (c35 : ¬ h34 = 59)
                  show Q 43 [(2, (0, 0, 0, 0, 0)), (1, (0, 0, 1, 9, u + 1)), (0, (2, 60, 0, 0, 0))] [] (xa_up (xa_up (xa_up (xa_up N29 89 u r29) 90 u (-1)) 90 u h33) 60 41 ((N29 60 41) + 1))
                  refine hgo.2.1 43 _ [(2, (0, 0, 0, 1, 0)), (1, (0, 0, 0, 8, u + 1)), (0, (2, 60, 0, 0, 0))] _ _ (xa_subI rfl rfl (fun _ _ _ _ => by omega) (xa_subI rfl rfl (fun _ _ _ _ => by omega) (xa_subR rfl xa_sub0))) ?_
                  exact ih (u + 1) 0 (xa_up (xa_up (xa_up (xa_up N29 89 u r29) 90 u (-1)) 90 u h33) 60 41 ((N29 60 41) + 1)) (by omega) (by omega) (by omega) (by omega) (by omega) (xm_c18_u (by omega) (xm_c18_u (by omega) (xm_c18_u (by omega) (xm_c18_u (by omega) (xm_c18_f (xm_c18_u (by omega) (xm_c18_u (by omega) (xm_c18_f hs hf3))) hf29))))) (by first | omega | (simp [xa_up]; omega)) (by first | omega | (simp [xa_up]; omega)) (fun x x0 x1 => by
                    by_cases e : x = u
                    · rw [e]
                      exact ⟨by
                        rw [xa_up_ne (by omega), xa_up_ne (by omega), xa_up_ne (by omega), xa_up_ne (by omega), hf29 88 _ (by omega), xa_up_ne (by omega), xa_up_hit (by omega)]
                        omega, by
                        rw [xa_up_ne (by omega), xa_up_ne (by omega), xa_up_ne (by omega), xa_up_hit (by omega)]
                        omega⟩
                    · have f := he x x0 (by omega)
                      exact ⟨by
                        rw [xa_up_ne (by omega), xa_up_ne (by omega), xa_up_ne (by omega), xa_up_ne (by omega), hf29 88 _ (by omega), xa_up_ne (by omega), xa_up_ne (by omega), hf3 88 _ (by omega)]
                        exact f.1, by
                        rw [xa_up_ne (by omega), xa_up_ne (by omega), xa_up_ne (by omega), xa_up_ne (by omega), hf29 89 _ (by omega), xa_up_ne (by omega), xa_up_ne (by omega), hf3 89 _ (by omega)]
                        exact f.2⟩) (by omega)
                · intro (c35 : h34 = 59)
                  refine And.intro ?_ ?_
                  · intro (c36 : 8 ≤ (u + 1))
                    show Q 43 [(2, (0, 0, 0, 0, 0)), (1, (0, 0, 1, 9, u + 1)), (0, (2, 60, 0, 0, 0))] [] (xa_up (xa_up (xa_up (xa_up N29 89 u r29) 90 u (-1)) 90 u h33) 60 41 ((N29 60 41) + 1))
                    refine hgo.2.1 43 _ [(2, (0, 0, 0, 1, 0)), (1, (0, 0, 0, 8, u + 1)), (0, (2, 60, 0, 0, 0))] _ _ (xa_subI rfl rfl (fun _ _ _ _ => by omega) (xa_subI rfl rfl (fun _ _ _ _ => by omega) (xa_subR rfl xa_sub0))) ?_
                    exact ih (u + 1) 0 (xa_up (xa_up (xa_up (xa_up N29 89 u r29) 90 u (-1)) 90 u h33) 60 41 ((N29 60 41) + 1)) (by omega) (by omega) (by omega) (by omega) (by omega) (xm_c18_u (by omega) (xm_c18_u (by omega) (xm_c18_u (by omega) (xm_c18_u (by omega) (xm_c18_f (xm_c18_u (by omega) (xm_c18_u (by omega) (xm_c18_f hs hf3))) hf29))))) (by first | omega | (simp [xa_up]; omega)) (by first | omega | (simp [xa_up]; omega)) (fun x x0 x1 => by
                      by_cases e : x = u
                      · rw [e]
                        exact ⟨by
                          rw [xa_up_ne (by omega), xa_up_ne (by omega), xa_up_ne (by omega), xa_up_ne (by omega), hf29 88 _ (by omega), xa_up_ne (by omega), xa_up_hit (by omega)]
                          omega, by
                          rw [xa_up_ne (by omega), xa_up_ne (by omega), xa_up_ne (by omega), xa_up_hit (by omega)]
                          omega⟩
                      · have f := he x x0 (by omega)
                        exact ⟨by
                          rw [xa_up_ne (by omega), xa_up_ne (by omega), xa_up_ne (by omega), xa_up_ne (by omega), hf29 88 _ (by omega), xa_up_ne (by omega), xa_up_ne (by omega), hf3 88 _ (by omega)]
                          exact f.1, by
                          rw [xa_up_ne (by omega), xa_up_ne (by omega), xa_up_ne (by omega), xa_up_ne (by omega), hf29 89 _ (by omega), xa_up_ne (by omega), xa_up_ne (by omega), hf3 89 _ (by omega)]
                          exact f.2⟩) (by omega)
                  · intro (c36 : (u + 1) < 8)
                    refine And.intro (show 0 ≤ (((N29 60 41) + 1) + 1) ∧ (((N29 60 41) + 1) + 1) ≤ 100 by omega) ?_
                    show Q 43 [(2, (0, 0, 1, 1, 1)), (1, (0, 0, 1, 9, u + 1)), (0, (2, 60, 0, 0, 0))] [] (xa_up (xa_up (xa_up (xa_up (xa_up N29 89 u r29) 90 u (-1)) 90 u h33) 60 41 ((N29 60 41) + 1)) 60 41 (((N29 60 41) + 1) + 1))
                    refine hgo.2.1 43 _ [(2, (0, 0, 0, 1, 1)), (1, (0, 0, 0, 8, u + 1)), (0, (2, 60, 0, 0, 0))] _ _ (xa_subI rfl rfl (fun _ _ _ _ => by omega) (xa_subI rfl rfl (fun _ _ _ _ => by omega) (xa_subR rfl xa_sub0))) ?_
                    exact ih (u + 1) 1 (xa_up (xa_up (xa_up (xa_up (xa_up N29 89 u r29) 90 u (-1)) 90 u h33) 60 41 ((N29 60 41) + 1)) 60 41 (((N29 60 41) + 1) + 1)) (by omega) (by omega) (by omega) (by omega) (by omega) (xm_c18_u (by omega) (xm_c18_u (by omega) (xm_c18_u (by omega) (xm_c18_u (by omega) (xm_c18_u (by omega) (xm_c18_f (xm_c18_u (by omega) (xm_c18_u (by omega) (xm_c18_f hs hf3))) hf29)))))) (by first | omega | (simp [xa_up]; omega)) (by first | omega | (simp [xa_up]; omega)) (fun x x0 x1 => by
                      by_cases e : x = u
                      · rw [e]
                        exact ⟨by
                          rw [xa_up_ne (by omega), xa_up_ne (by omega), xa_up_ne (by omega), xa_up_ne (by omega), xa_up_ne (by omega), hf29 88 _ (by omega), xa_up_ne (by omega), xa_up_hit (by omega)]
                          omega, by
                          rw [xa_up_ne (by omega), xa_up_ne (by omega), xa_up_ne (by omega), xa_up_ne (by omega), xa_up_hit (by omega)]
                          omega⟩
                      · have f := he x x0 (by omega)
                        exact ⟨by
                          rw [xa_up_ne (by omega), xa_up_ne (by omega), xa_up_ne (by omega), xa_up_ne (by omega), xa_up_ne (by omega), hf29 88 _ (by omega), xa_up_ne (by omega), xa_up_ne (by omega), hf3 88 _ (by omega)]
                          exact f.1, by
                          rw [xa_up_ne (by omega), xa_up_ne (by omega), xa_up_ne (by omega), xa_up_ne (by omega), xa_up_ne (by omega), hf29 89 _ (by omega), xa_up_ne (by omega), xa_up_ne (by omega), hf3 89 _ (by omega)]
                          exact f.2⟩) (by omega)
              · intro (i32 : ¬ (97 ≤ h31 ∧ h31 ≤ 122))
                show xa_C xm_I A h0 _ 254 [(2, 60, 0, 0, 0)] (xa_up (xa_up N29 89 u r29) 90 u (-1)) _
                refine ct_here (fun h37 eh37 => ?_)
                replace eh37 : ((N29 60 41) < (N29 60 40) ∧ (N29 60 41) < 60 ∧ h37 = N29 73 (N29 60 41)) ∨ (¬ ((N29 60 41) < (N29 60 40) ∧ (N29 60 41) < 60) ∧ h37 = -1) := eh37
                refine And.intro ?_ ?_
                · intro (c38 : ¬ h37 = 59)
                  show Q 43 [(2, (0, 0, 0, 0, 0)), (1, (0, 0, 1, 9, u + 1)), (0, (2, 60, 0, 0, 0))] [] (xa_up (xa_up N29 89 u r29) 90 u (-1))
                  refine hgo.2.1 43 _ [(2, (0, 0, 0, 1, 0)), (1, (0, 0, 0, 8, u + 1)), (0, (2, 60, 0, 0, 0))] _ _ (xa_subI rfl rfl (fun _ _ _ _ => by omega) (xa_subI rfl rfl (fun _ _ _ _ => by omega) (xa_subR rfl xa_sub0))) ?_
                  exact ih (u + 1) 0 (xa_up (xa_up N29 89 u r29) 90 u (-1)) (by omega) (by omega) (by omega) (by omega) (by omega) (xm_c18_u (by omega) (xm_c18_u (by omega) (xm_c18_f (xm_c18_u (by omega) (xm_c18_u (by omega) (xm_c18_f hs hf3))) hf29))) (by first | omega | (simp [xa_up]; omega)) (by first | omega | (simp [xa_up]; omega)) (fun x x0 x1 => by
                    by_cases e : x = u
                    · rw [e]
                      exact ⟨by
                        rw [xa_up_ne (by omega), xa_up_ne (by omega), hf29 88 _ (by omega), xa_up_ne (by omega), xa_up_hit (by omega)]
                        omega, by
                        rw [xa_up_ne (by omega), xa_up_hit (by omega)]
                        omega⟩
                    · have f := he x x0 (by omega)
                      exact ⟨by
                        rw [xa_up_ne (by omega), xa_up_ne (by omega), hf29 88 _ (by omega), xa_up_ne (by omega), xa_up_ne (by omega), hf3 88 _ (by omega)]
                        exact f.1, by
                        rw [xa_up_ne (by omega), xa_up_ne (by omega), hf29 89 _ (by omega), xa_up_ne (by omega), xa_up_ne (by omega), hf3 89 _ (by omega)]
                        exact f.2⟩) (by omega)
                · intro (c38 : h37 = 59)
                  refine And.intro ?_ ?_
                  · intro (c39 : 8 ≤ (u + 1))
                    show Q 43 [(2, (0, 0, 0, 0, 0)), (1, (0, 0, 1, 9, u + 1)), (0, (2, 60, 0, 0, 0))] [] (xa_up (xa_up N29 89 u r29) 90 u (-1))
                    refine hgo.2.1 43 _ [(2, (0, 0, 0, 1, 0)), (1, (0, 0, 0, 8, u + 1)), (0, (2, 60, 0, 0, 0))] _ _ (xa_subI rfl rfl (fun _ _ _ _ => by omega) (xa_subI rfl rfl (fun _ _ _ _ => by omega) (xa_subR rfl xa_sub0))) ?_
                    exact ih (u + 1) 0 (xa_up (xa_up N29 89 u r29) 90 u (-1)) (by omega) (by omega) (by omega) (by omega) (by omega) (xm_c18_u (by omega) (xm_c18_u (by omega) (xm_c18_f (xm_c18_u (by omega) (xm_c18_u (by omega) (xm_c18_f hs hf3))) hf29))) (by first | omega | (simp [xa_up]; omega)) (by first | omega | (simp [xa_up]; omega)) (fun x x0 x1 => by
                      by_cases e : x = u
                      · rw [e]
                        exact ⟨by
                          rw [xa_up_ne (by omega), xa_up_ne (by omega), hf29 88 _ (by omega), xa_up_ne (by omega), xa_up_hit (by omega)]
                          omega, by
                          rw [xa_up_ne (by omega), xa_up_hit (by omega)]
                          omega⟩
                      · have f := he x x0 (by omega)
                        exact ⟨by
                          rw [xa_up_ne (by omega), xa_up_ne (by omega), hf29 88 _ (by omega), xa_up_ne (by omega), xa_up_ne (by omega), hf3 88 _ (by omega)]
                          exact f.1, by
                          rw [xa_up_ne (by omega), xa_up_ne (by omega), hf29 89 _ (by omega), xa_up_ne (by omega), xa_up_ne (by omega), hf3 89 _ (by omega)]
                          exact f.2⟩) (by omega)
                  · intro (c39 : (u + 1) < 8)
                    refine And.intro (show 0 ≤ ((N29 60 41) + 1) ∧ ((N29 60 41) + 1) ≤ 100 by omega) ?_
                    show Q 43 [(2, (0, 0, 1, 1, 1)), (1, (0, 0, 1, 9, u + 1)), (0, (2, 60, 0, 0, 0))] [] (xa_up (xa_up (xa_up N29 89 u r29) 90 u (-1)) 60 41 ((N29 60 41) + 1))
                    refine hgo.2.1 43 _ [(2, (0, 0, 0, 1, 1)), (1, (0, 0, 0, 8, u + 1)), (0, (2, 60, 0, 0, 0))] _ _ (xa_subI rfl rfl (fun _ _ _ _ => by omega) (xa_subI rfl rfl (fun _ _ _ _ => by omega) (xa_subR rfl xa_sub0))) ?_
                    exact ih (u + 1) 1 (xa_up (xa_up (xa_up N29 89 u r29) 90 u (-1)) 60 41 ((N29 60 41) + 1)) (by omega) (by omega) (by omega) (by omega) (by omega) (xm_c18_u (by omega) (xm_c18_u (by omega) (xm_c18_u (by omega) (xm_c18_f (xm_c18_u (by omega) (xm_c18_u (by omega) (xm_c18_f hs hf3))) hf29)))) (by first | omega | (simp [xa_up]; omega)) (by first | omega | (simp [xa_up]; omega)) (fun x x0 x1 => by
                      by_cases e : x = u
                      · rw [e]
                        exact ⟨by
                          rw [xa_up_ne (by omega), xa_up_ne (by omega), xa_up_ne (by omega), hf29 88 _ (by omega), xa_up_ne (by omega), xa_up_hit (by omega)]
                          omega, by
                          rw [xa_up_ne (by omega), xa_up_ne (by omega), xa_up_hit (by omega)]
                          omega⟩
                      · have f := he x x0 (by omega)
                        exact ⟨by
                          rw [xa_up_ne (by omega), xa_up_ne (by omega), xa_up_ne (by omega), hf29 88 _ (by omega), xa_up_ne (by omega), xa_up_ne (by omega), hf3 88 _ (by omega)]
                          exact f.1, by
                          rw [xa_up_ne (by omega), xa_up_ne (by omega), xa_up_ne (by omega), hf29 89 _ (by omega), xa_up_ne (by omega), xa_up_ne (by omega), hf3 89 _ (by omega)]
                          exact f.2⟩) (by omega)
            · intro (c30 : ¬ (N29 60 42) = (-1))
              show post (some (0, 0, (-2147483648), 2147483647, (-1) - (N29 60 42))) (xa_up (xa_up N29 89 u r29) 90 u (-1))
              exact k _ _ (xm_c18_I hI (xm_c18_u (by omega) (xm_c18_u (by omega) (xm_c18_f (xm_c18_u (by omega) (xm_c18_u (by omega) (xm_c18_f hs hf3))) hf29))))
  refine hgo.1 29 [43] 0 _ _ _ ?_
  refine And.intro ?_ ?_
  · intro (c1 : (M 60 18) ≤ 0)
    show Q 43 [(2, (0, 0, 0, 0, 0)), (1, (0, 0, 0, 0, 0)), (0, (2, 60, 0, 0, 0))] [] (xa_up (xa_up (xa_up (xa_up (xa_up M 60 21 0) 60 40 (M 60 18)) 60 18 0) 60 41 0) 60 42 (-1))
    refine hgo.2.1 43 _ [(2, (0, 0, 0, 1, 0)), (1, (0, 0, 0, 8, 0)), (0, (2, 60, 0, 0, 0))] _ _ (xa_subI rfl rfl (fun _ _ _ _ => by omega) (xa_subI rfl rfl (fun _ _ _ _ => by omega) (xa_subR rfl xa_sub0))) ?_
    exact loop 9 0 0 (xa_up (xa_up (xa_up (xa_up (xa_up M 60 21 0) 60 40 (M 60 18)) 60 18 0) 60 41 0) 60 42 (-1)) (by omega) (by omega) (by omega) (by omega) (by omega) (xm_c18_u (by omega) (xm_c18_u (by omega) (xm_c18_u (by omega) (xm_c18_u (by omega) (xm_c18_u (by omega) (fun _ _ _ _ => rfl)))))) (by simp [xa_up]) (by simp [xa_up]) (fun x x0 x1 => by omega) (by omega)
  · intro (c1 : 0 < (M 60 18))
    show Q 43 [(2, (0, 0, 1, 1, 1)), (1, (0, 0, 0, 0, 0)), (0, (2, 60, 0, 0, 0))] [] (xa_up (xa_up (xa_up (xa_up (xa_up M 60 21 0) 60 40 (M 60 18)) 60 18 0) 60 41 0) 60 42 (-1))
    refine hgo.2.1 43 _ [(2, (0, 0, 0, 1, 1)), (1, (0, 0, 0, 8, 0)), (0, (2, 60, 0, 0, 0))] _ _ (xa_subI rfl rfl (fun _ _ _ _ => by omega) (xa_subI rfl rfl (fun _ _ _ _ => by omega) (xa_subR rfl xa_sub0))) ?_
    exact loop 9 0 1 (xa_up (xa_up (xa_up (xa_up (xa_up M 60 21 0) 60 40 (M 60 18)) 60 18 0) 60 41 0) 60 42 (-1)) (by omega) (by omega) (by omega) (by omega) (by omega) (xm_c18_u (by omega) (xm_c18_u (by omega) (xm_c18_u (by omega) (xm_c18_u (by omega) (xm_c18_u (by omega) (fun _ _ _ _ => rfl)))))) (by simp [xa_up]) (by simp [xa_up]) (fun x x0 x1 => by omega) (by omega)
