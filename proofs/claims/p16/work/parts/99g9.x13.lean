-- take, sheet, fit: pairs of calls
set_option maxRecDepth 20000
/-- both sides have gone on; what is taken is the same -/
theorem lm_R_tk {b : Bool} {U V U' V' : xa_M} (h : lm_R b (xj U V)) (e1 : ∀ q j, lm_C q j → q < 60 → ¬ q = 4 → U' q j = U q j) (e2 : ∀ q j, lm_C q j → ¬ q < 60 → ¬ q = 63 → V' q j = V q j) (et : ∀ i, 0 ≤ i → i < 14 → U' 4 i = V' 63 i) : lm_R b (xj U' V') := by
  have f : ∀ q j, lm_C q j → ¬ q = 4 → ¬ q = 63 → xj U' V' q j = xj U V q j := by
    intro q j hC h4 h63
    unfold xj
    by_cases hq : q < 60
    · rw [if_pos hq, if_pos hq]
      exact e1 q j hC hq h4
    · rw [if_neg hq, if_neg hq]
      exact e2 q j hC hq h63
  obtain ⟨⟨h1, h2, h3, h4⟩, hS⟩ := h
  refine ⟨⟨?_, ?_, fun i i0 i1 => ?_, fun i i0 i1 => ?_⟩, lm_S_k (fun q j hC => f q j (lm_CS_C hC) (by unfold lm_CS at hC; omega) (by unfold lm_CS at hC; omega)) hS⟩
  · rw [f 1 9 (by unfold lm_C; omega) (by decide) (by decide), f 60 0 (by unfold lm_C; omega) (by decide) (by decide)]
    exact h1
  · rw [f 1 10 (by unfold lm_C; omega) (by decide) (by decide), f 60 6 (by unfold lm_C; omega) (by decide) (by decide)]
    exact h2
  · obtain ⟨g1, g2, g3, g4, -⟩ := h3 i i0 i1
    rw [f 2 i (by unfold lm_C; omega) (by decide) (by decide), f 3 i (by unfold lm_C; omega) (by decide) (by decide), f 5 i (by unfold lm_C; omega) (by decide) (by decide), f 6 i (by unfold lm_C; omega) (by decide) (by decide), f 61 i (by unfold lm_C; omega) (by decide) (by decide), f 62 i (by unfold lm_C; omega) (by decide) (by decide), f 64 i (by unfold lm_C; omega) (by decide) (by decide), f 65 i (by unfold lm_C; omega) (by decide) (by decide)]
    exact ⟨g1, g2, g3, g4, et i i0 i1⟩
  · rw [f 7 i (by unfold lm_C; omega) (by decide) (by decide), f 8 i (by unfold lm_C; omega) (by decide) (by decide), f 66 i (by unfold lm_C; omega) (by decide) (by decide), f 67 i (by unfold lm_C; omega) (by decide) (by decide)]
    exact h4 i i0 i1
theorem iv_p30 (A : Nat → Nat) (_c : Bool) : iv_pair (iv_J A) A 30 219 [0, 0, 0, 0] false false := iv_armV (fun W b h as M hJ hM hInv hs hR => by
  obtain ⟨m1, ys, rfl, -, hs⟩ := iv_spc hs
  obtain ⟨m2, ys, rfl, -, hs⟩ := iv_spc hs
  obtain ⟨m3, ys, rfl, -, hs⟩ := iv_spc hs
  obtain ⟨m4, ys, rfl, -, hs⟩ := iv_spc hs
  obtain rfl := iv_sp0 hs
  have b0 := xm_f0 (xa_H_Mok hM)
  have b6 := xm_f6 (xa_H_Mok hM)
  have r1 : iv_num h 1 9 = M 60 0 := hR.1.1
  have r2 : iv_num h 1 10 = M 60 6 := hR.1.2.1
  have r3 : ∀ i, 0 ≤ i → i < 14 → iv_num h 2 i = M 61 i ∧ iv_num h 3 i = M 62 i ∧ iv_num h 5 i = M 64 i ∧ iv_num h 6 i = M 65 i ∧ iv_num h 4 i = M 63 i := hR.1.2.2.1
  have r4 : ∀ i, 0 ≤ i → i < 16 → iv_num h 7 i = M 66 i ∧ iv_num h 8 i = M 67 i := hR.1.2.2.2
  have hS := hR.2
  have hc := cw_30s (b := b) (A := A) (h0 := h) (d := 56) (M := iv_num h) (l1 := -2147483648) (u1 := 2147483647) (l2 := -2147483648) (u2 := 2147483647) (l3 := -2147483648) (u3 := 2147483647) (l4 := -2147483648) (u4 := 2147483647) (x1 := m1.toInt) (x2 := m2.toInt) (x3 := m3.toInt) (x4 := m4.toInt) (post := fun o M1 => ∃ lo hi n, o = some (0, 0, lo, hi, n) ∧ ((∀ (q : Nat) (j : Int), ¬ q = 4 → M1 q j = iv_num h q j) ∧ sv_Q (iv_num h 2) (iv_num h 3) (iv_num h 4) m1.toInt m2.toInt m3.toInt m4.toInt (iv_num h 1 9) (M1 4))) (by omega) (fun lo n hi M1 x1 x2 => ⟨lo, hi, n, rfl, x1, x2⟩)
  rw [r1] at hc
  have hm := fun (h1 : g_H) => ms_sheetG (A := A) (h0 := h1) (d := 57) (M := M) (l1 := -2147483648) (u1 := 2147483647) (l2 := -2147483648) (u2 := 2147483647) (l3 := -2147483648) (u3 := 2147483647) (l4 := -2147483648) (u4 := 2147483647) (a := m1.toInt) (b := m2.toInt) (c := m3.toInt) (e := m4.toInt) (post := fun o M2 => (∃ lo hi n, o = some (0, 0, lo, hi, n) ∧ ((∀ (q : Nat) (j : Int), ¬ xm_scr q j → ¬ q = 63 → M2 q j = M q j) ∧ sv_Q (M 61) (M 62) (M 63) m1.toInt m2.toInt m3.toInt m4.toInt (M 60 0) (M2 63))) ∧ xm_Inv M2) hInv (fun o M2 x0 x1 x2 x3 => by
    obtain ⟨lo, hi, n, rfl⟩ := x0
    exact ⟨⟨lo, hi, n, rfl, x1, x2⟩, x3⟩)
  refine ⟨[(2, 0, 0, 0, 0), (0, 0, -2147483648, 2147483647, m1.toInt), (0, 0, -2147483648, 2147483647, m2.toInt), (0, 0, -2147483648, 2147483647, m3.toInt), (0, 0, -2147483648, 2147483647, m4.toInt)], [(2, 60, 0, 0, 0), (0, 0, -2147483648, 2147483647, m1.toInt), (0, 0, -2147483648, 2147483647, m2.toInt), (0, 0, -2147483648, 2147483647, m3.toInt), (0, 0, -2147483648, 2147483647, m4.toInt)], _, _, ⟨rfl, iv_i m1, iv_i m2, iv_i m3, iv_i m4, trivial⟩, ⟨rfl, iv_i m1, iv_i m2, iv_i m3, iv_i m4, trivial⟩, fun n n' M1 M2 h1 h2 => ⟨fun e => by (cases e), fun x => h2.1 104 x (by unfold xm_scr; omega) (by decide), fun x => h2.1 105 x (by unfold xm_scr; omega) (by decide), ?_⟩, hc, hm⟩
  refine lm_R_tk hR (fun q j _ _ h4 => h1.1 q j h4) (fun q j hC hq h63 => h2.1 q j (by unfold lm_C at hC; unfold xm_scr; omega) h63) ?_
  exact sv_one b0.2 h1.2 h2.2 (fun i i0 i1 => by
    obtain ⟨g1, g2, -, -, g5⟩ := r3 i i0 i1
    exact ⟨g1, g2, g5⟩))
def lt_ok (a b n lo hi : Int) : Prop := (0 ≤ a ∧ a < n) ∧ lo ≤ b ∧ b ≤ hi
theorem cx_23_4 {b : Bool} {A : Nat → Nat} {h0 : g_H} {d : Nat} {M : xa_M} {post : Option xa_V → xa_M → Prop} {l1 u1 : Int} {i : Int} (h1 : 0 ≤ i ∧ i < 14) (k1 : post (some (0, 0, (-2147483648), 2147483647, M 4 i)) M) : xa_C (xl_I b) A h0 (d + 1) 23 [(2, 4, 0, 0, 0), (0, 0, l1, u1, i)] M post := by
  refine xa_C_arg [(2, 4, 0, 0, 0), (0, 0, (-2147483648), 2147483647, i)] (xa_svR (xa_svI (fun _ _ _ _ => by omega) xa_sv0)) ?_
  refine xa_meth (Q0 := (2, 1, false, 0, 0, 11)) (by decide +kernel) ⟨rfl, rfl⟩ (full := s_c_23) rfl rfl ?_
  intro hM hv Q hgo
  refine hgo.1 15 [] 0 _ _ _ ?_
  refine And.intro ?_ ?_
  · intro (c1 : i < 0)
    show post (some (0, 0, 0, 0, 0)) M
    exact absurd h1 (by omega)
  · intro (c1 : 0 ≤ i)
    refine And.intro ?_ ?_
    · intro (c2 : 14 ≤ i)
      show post (some (0, 0, 0, 0, 0)) M
      exact absurd h1 (by omega)
    · intro (c2 : i < 14)
      refine And.intro (show 0 ≤ i ∧ i < 14 by omega) ?_
      show post (some (0, 0, (-2147483648), 2147483647, M 4 i)) M
      exact k1
theorem cx_28_1 {b : Bool} {A : Nat → Nat} {h0 : g_H} {d : Nat} {M : xa_M} {post : Option xa_V → xa_M → Prop} {l1 u1 : Int} {x1 : Int} (h1 : 0 ≤ x1 ∧ x1 < 14) (k1 : post (some (0, 0, (-2147483648), 2147483647, M 4 x1)) M) : xa_C (xl_I b) A h0 (d + 2) 28 [(2, 1, 0, 0, 0), (0, 0, l1, u1, x1)] M post := by
  refine xa_C_arg [(2, 1, 0, 0, 0), (0, 0, (-2147483648), 2147483647, x1)] (xa_svR (xa_svI (fun _ _ _ _ => by omega) (xa_sv0))) ?_
  refine xa_meth (Q0 := (2, 1, false, 0, 0, 1)) (by decide +kernel) ⟨rfl, rfl⟩ (full := s_c_28) rfl rfl ?_
  intro hM hv Q hgo
  refine hgo.1 9 [] 0 _ _ _ ?_
  show xa_C (xl_I b) A h0 _ 23 [(2, 4, 0, 0, 0), (0, 0, (-2147483648), 2147483647, x1)] M _
  refine cx_23_4 (show 0 ≤ x1 ∧ x1 < 14 by omega) ?_
  show post (some (0, 0, (-2147483648), 2147483647, M 4 x1)) M
  exact k1
theorem cx_27_0 {b : Bool} {A : Nat → Nat} {h0 : g_H} {d : Nat} {M : xa_M} {post : Option xa_V → xa_M → Prop} {l1 u1 l2 u2 : Int} {x1 x2 : Int} (h1 : 0 ≤ (M 1 9) ∧ (M 1 9) ≤ 14) (k1 : (x1 < 0) → post (some (0, 0, (-1), (-1), (-1))) M) (k2 : (0 ≤ x1) → ((M 1 9) ≤ x1) → post (some (0, 0, (-1), (-1), (-1))) M) (k3 : (0 ≤ x1) → (x1 < (M 1 9)) → (x2 < (M 2 x1)) → post (some (0, 0, (-1), (-1), (-1))) M) (k4 : (0 ≤ x1) → (x1 < (M 1 9)) → ((M 2 x1) ≤ x2) → (x2 ≤ (M 3 x1)) → post (some (0, 0, (-2147483648), 2147483647, M 4 x1)) (xa_up M 4 x1 x2)) (k5 : (0 ≤ x1) → (x1 < (M 1 9)) → ((M 2 x1) ≤ x2) → ((M 3 x1) < x2) → post (some (0, 0, (-1), (-1), (-1))) M) : xa_C (xl_I b) A h0 (d + 3) 27 [(2, 0, 0, 0, 0), (0, 0, l1, u1, x1), (0, 0, l2, u2, x2)] M post := by
  refine xa_C_arg [(2, 0, 0, 0, 0), (0, 0, (-2147483648), 2147483647, x1), (0, 0, (-2147483648), 2147483647, x2)] (xa_svR (xa_svI (fun _ _ _ _ => by omega) (xa_svI (fun _ _ _ _ => by omega) (xa_sv0)))) ?_
  refine xa_meth (Q0 := (4, 1, false, 0, 0, 11)) (by decide +kernel) ⟨rfl, rfl⟩ (full := s_c_27) rfl rfl ?_
  intro hM hv Q hgo
  refine hgo.1 33 [] 0 _ _ _ ?_
  show xa_C (xl_I b) A h0 _ 20 [(2, 1, 0, 0, 0), (0, 0, (-2147483648), 2147483647, x1)] M _
  refine cx_20_1 ?_ ?_ ?_
  · intro (i1 : x1 < 0)
    show post (some (0, 0, (-1), (-1), (-1))) M
    exact k1 i1
  · intro (i2 : 0 ≤ x1) (i3 : (M 1 9) ≤ x1)
    show post (some (0, 0, (-1), (-1), (-1))) M
    exact k2 i2 i3
  · intro (i4 : 0 ≤ x1) (i5 : x1 < (M 1 9))
    show xa_C (xl_I b) A h0 _ 22 [(2, 1, 0, 0, 0), (0, 0, (-2147483648), 2147483647, x1)] M _
    refine cx_22_1 (show 0 ≤ x1 ∧ x1 < 14 by omega) ?_
    refine And.intro ?_ ?_
    · intro (c6 : x2 < (M 2 x1))
      show post (some (0, 0, (-1), (-1), (-1))) M
      exact k3 i4 i5 c6
    · intro (c6 : (M 2 x1) ≤ x2)
      show xa_C (xl_I b) A h0 _ 25 [(2, 1, 0, 0, 0), (0, 0, (-2147483648), 2147483647, x1)] M _
      refine cx_25_1 (show 0 ≤ x1 ∧ x1 < 14 by omega) ?_
      refine And.intro ?_ ?_
      · intro (c7 : x2 ≤ (M 3 x1))
        show xa_C (xl_I b) A h0 _ 28 [(2, 1, 0, 0, 0), (0, 0, (-2147483648), 2147483647, x1)] M _
        refine cx_28_1 (show 0 ≤ x1 ∧ x1 < 14 by omega) ?_
        show xa_C (xl_I b) A h0 _ 29 [(2, 1, 0, 0, 0), (0, 0, (-2147483648), 2147483647, x1), (0, 0, (-2147483648), 2147483647, x2)] M _
        refine cx_29_1 (show 0 ≤ x1 ∧ x1 < 14 by omega) ?_
        show post (some (0, 0, (-2147483648), 2147483647, M 4 x1)) (xa_up M 4 x1 x2)
        exact k4 i4 i5 c6 c7
      · intro (c7 : (M 3 x1) < x2)
        show post (some (0, 0, (-1), (-1), (-1))) M
        exact k5 i4 i5 c6 c7
theorem cw_27 {b : Bool} {A : Nat → Nat} {h0 : g_H} {d : Nat} {M : xa_M} {l1 u1 l2 u2 : Int} {x1 x2 : Int} (h1 : 0 ≤ (M 1 9) ∧ (M 1 9) ≤ 14) : xa_C (xl_I b) A h0 (d + 3) 27 [(2, 0, 0, 0, 0), (0, 0, l1, u1, x1), (0, 0, l2, u2, x2)] M (iv_P (lt_ok x1 x2 (M 1 9) (M 2 x1) (M 3 x1)) (M 4 x1) (xa_up M 4 x1 x2) (-1) M) := by
  refine cx_27_0 h1 ?_ ?_ ?_ ?_ ?_
  all_goals intros
  all_goals first
    | exact Or.inr ⟨by unfold lt_ok; omega, ⟨_, _, rfl⟩, rfl⟩
    | exact Or.inl ⟨by unfold lt_ok; omega, ⟨_, _, rfl⟩, rfl⟩
theorem ms_takeF {A : Nat → Nat} {h0 : g_H} {d : Nat} {M : xa_M} {post : Option xa_V → xa_M → Prop} {l1 u1 l2 u2 : Int} {a b : Int} (hI : xm_Inv M) (k : ∀ (o : Option xa_V) (M1 : xa_M), iv_P (lt_ok a b (M 60 0) (M 61 a) (M 62 a)) (M 63 a) (xa_up (xa_up M 60 21 0) 63 a b) (-1) (xa_up M 60 21 0) o M1 → xm_Inv M1 → post o M1) : xa_C xm_I A h0 (d + 3) 218 [(2, 60, 0, 0, 0), (0, 0, l1, u1, a), (0, 0, l2, u2, b)] M post := by
  refine xa_C_arg [(2, 60, 0, 0, 0), (0, 0, (-2147483648), 2147483647, a), (0, 0, (-2147483648), 2147483647, b)] (xa_svR (xa_svI (fun _ _ _ _ => by omega) (xa_svI (fun _ _ _ _ => by omega) xa_sv0))) ?_
  refine xa_meth (Q0 := (4, 1, false, 0, 0, 12)) (by decide +kernel) ⟨rfl, rfl⟩ (full := s_c_218) rfl rfl ?_
  intro hM hv Q hgo
  have b0 := xm_f0 hM
  have b6 := xm_f6 hM
  have ta : 0 ≤ a → a < 14 → (0 ≤ M 61 a ∧ M 61 a ≤ 400) ∧ (0 ≤ M 62 a ∧ M 62 a ≤ 400) := fun h1 h2 => ⟨xm_t61 hM a h1 h2, xm_t62 hM a h1 h2⟩
  have ha : 0 ≤ a → a < M 60 0 → 10 ≤ M 61 a ∧ M 61 a ≤ M 62 a ∧ 10 ≤ M 63 a := hI.1 a
  refine hgo.1 34 [] 0 _ _ _ ?_
  show xa_C xm_I A h0 _ 217 [(2, 60, 0, 0, 0), (0, 0, (-2147483648), 2147483647, a)] (xa_up M 60 21 0) _
  refine ct_isWheel ?_ ?_
  · intro (i1 : 0 ≤ a ∧ a < (M 60 0))
    refine And.intro (show 0 ≤ a ∧ a < 14 by omega) ?_
    refine And.intro (show 0 ≤ a ∧ a < 14 by omega) ?_
    show xa_C xm_I A h0 _ 214 [(0, 0, (-2147483648), 2147483647, b), (0, 0, 0, 400, M 61 a), (0, 0, 0, 400, M 62 a)] (xa_up M 60 21 0) _
    refine ct_in ?_ ?_
    · intro (i2 : (M 61 a) ≤ b ∧ b ≤ (M 62 a))
      refine And.intro (show 0 ≤ a ∧ a < 14 by omega) ?_
      refine And.intro (show 0 ≤ a ∧ a < 14 by omega) ?_
      refine And.intro (show 0 ≤ b ∧ b ≤ 400 by omega) ?_
      show post (some (0, 0, 0, 400, M 63 a)) (xa_up (xa_up M 60 21 0) 63 a b)
      refine k _ _ (by first | exact Or.inr ⟨by unfold lt_ok; omega, ⟨_, _, rfl⟩, rfl⟩ | exact Or.inl ⟨by unfold lt_ok; omega, ⟨_, _, rfl⟩, rfl⟩) (xm_Inv_b (M := M) (fun j => by simp [xa_up]) (fun j => by simp [xa_up]) hI (fun w w0 w1 => ?_) (fun m m0 m1 => ?_) (fun p p0 p1 => ?_) ?_)
      · have h := hI.1 w w0 (by simp [xa_up] at w1; omega)
        by_cases e : w = a
        · subst e
          simp [xa_up]
          omega
        · simp [xa_up, e]
          exact h
      · have h := hI.2.1 m m0 (by simp [xa_up] at m1; omega)
        simp [xa_up]
        exact h
      · have h := hI.2.2.1 p p0 (by simp [xa_up] at p1; omega)
        simp [xa_up]
        exact h
      · simp [xa_up]
        exact hI.2.2.2.1
    · intro (i2 : ¬ ((M 61 a) ≤ b ∧ b ≤ (M 62 a)))
      show post (some (0, 0, (-1), (-1), (-1))) (xa_up M 60 21 0)
      exact k _ _ (by first | exact Or.inr ⟨by unfold lt_ok; omega, ⟨_, _, rfl⟩, rfl⟩ | exact Or.inl ⟨by unfold lt_ok; omega, ⟨_, _, rfl⟩, rfl⟩) (xm_Inv_cor (xm_cor_f (by omega) xm_cor_r) hI)
  · intro (i1 : ¬ (0 ≤ a ∧ a < (M 60 0)))
    show post (some (0, 0, (-1), (-1), (-1))) (xa_up M 60 21 0)
    exact k _ _ (by first | exact Or.inr ⟨by unfold lt_ok; omega, ⟨_, _, rfl⟩, rfl⟩ | exact Or.inl ⟨by unfold lt_ok; omega, ⟨_, _, rfl⟩, rfl⟩) (xm_Inv_cor (xm_cor_f (by omega) xm_cor_r) hI)
theorem iv_p27 (A : Nat → Nat) (cmp : Bool) : iv_pair (iv_J A) A 27 218 [0, 0] cmp false := iv_armP (fun W b h as M hJ hM hInv hs hR => by
  obtain ⟨m1, ys, rfl, -, hs⟩ := iv_spc hs
  obtain ⟨m2, ys, rfl, -, hs⟩ := iv_spc hs
  obtain rfl := iv_sp0 hs
  have b0 := xm_f0 (xa_H_Mok hM)
  have b6 := xm_f6 (xa_H_Mok hM)
  have r1 : iv_num h 1 9 = M 60 0 := hR.1.1
  have r2 : iv_num h 1 10 = M 60 6 := hR.1.2.1
  have r3 : ∀ i, 0 ≤ i → i < 14 → iv_num h 2 i = M 61 i ∧ iv_num h 3 i = M 62 i ∧ iv_num h 5 i = M 64 i ∧ iv_num h 6 i = M 65 i ∧ iv_num h 4 i = M 63 i := hR.1.2.2.1
  have r4 : ∀ i, 0 ≤ i → i < 16 → iv_num h 7 i = M 66 i ∧ iv_num h 8 i = M 67 i := hR.1.2.2.2
  have hS := hR.2
  have hc0 := cw_27 (b := b) (A := A) (h0 := h) (d := 57) (M := iv_num h) (l1 := -2147483648) (u1 := 2147483647) (l2 := -2147483648) (u2 := 2147483647) (x1 := m1.toInt) (x2 := m2.toInt) (by omega)
  have hc : xa_C (xl_I b) A h 60 27 [(2, 0, 0, 0, 0), (0, 0, -2147483648, 2147483647, m1.toInt), (0, 0, -2147483648, 2147483647, m2.toInt)] (iv_num h) (iv_P (lt_ok m1.toInt m2.toInt (M 60 0) (M 61 m1.toInt) (M 62 m1.toInt)) (M 63 m1.toInt) (xa_up (iv_num h) 4 m1.toInt m2.toInt) (-1) (iv_num h)) := by
    by_cases c1 : 0 ≤ m1.toInt ∧ m1.toInt < 14
    · obtain ⟨g1, g2, -, -, g5⟩ := r3 m1.toInt c1.1 c1.2
      rw [r1, g1, g2, g5] at hc0
      exact hc0
    · rw [r1] at hc0
      exact xa_C_mono hc0 (fun o M1 hP => iv_P_no (fun h => c1 ⟨h.1.1, by have := h.1.2; omega⟩) (fun h => c1 ⟨h.1.1, by have := h.1.2; omega⟩) hP)
  have hm := fun (h1 : g_H) => ms_takeF (A := A) (h0 := h1) (d := 57) (M := M) (l1 := -2147483648) (u1 := 2147483647) (l2 := -2147483648) (u2 := 2147483647) (a := m1.toInt) (b := m2.toInt) (post := fun o M2 => iv_P (lt_ok m1.toInt m2.toInt (M 60 0) (M 61 m1.toInt) (M 62 m1.toInt)) (M 63 m1.toInt) _ (-1) _ o M2 ∧ xm_Inv M2) hInv (fun o M1 hP hI => ⟨hP, hI⟩)
  refine ⟨[(2, 0, 0, 0, 0), (0, 0, -2147483648, 2147483647, m1.toInt), (0, 0, -2147483648, 2147483647, m2.toInt)], [(2, 60, 0, 0, 0), (0, 0, -2147483648, 2147483647, m1.toInt), (0, 0, -2147483648, 2147483647, m2.toInt)], _, _, _, _, _, _, _, ⟨rfl, iv_i m1, iv_i m2, trivial⟩, ⟨rfl, iv_i m1, iv_i m2, trivial⟩, hc, hm, fun hok => ⟨?_, fun z => ?_, fun z => ?_⟩, fun hok => ⟨?_, fun z => ?_, fun z => ?_⟩⟩
  · refine lm_R_tk hR (fun q j _ _ h4 => xa_up_ne (fun e => h4 e.1)) (fun q j hC hq h63 => (xa_up_ne (fun e => h63 e.1)).trans (xa_up_ne (by unfold lm_C at hC; omega))) (fun i i0 i1 => ?_)
    by_cases e : i = m1.toInt
    · rw [e]
      exact xa_up_eq.trans xa_up_eq.symm
    · exact (xa_up_ne (fun h => e h.2)).trans ((r3 i i0 i1).2.2.2.2.trans ((xa_up_ne (fun h => e h.2)).trans (xa_up_ne (by omega))).symm)
  · exact (xa_up_ne (by omega)).trans (xa_up_ne (by omega))
  · exact (xa_up_ne (by omega)).trans (xa_up_ne (by omega))
  · exact lm_R_tk hR (fun q j _ _ _ => rfl) (fun q j hC hq h63 => xa_up_ne (by unfold lm_C at hC; omega)) (fun i i0 i1 => (r3 i i0 i1).2.2.2.2.trans (xa_up_ne (by omega)).symm)
  · exact xa_up_ne (by omega)
  · exact xa_up_ne (by omega))
theorem cw_99 {b : Bool} {A : Nat → Nat} {h0 : g_H} {d : Nat} {M : xa_M} {post : Option xa_V → xa_M → Prop} {l1 u1 l2 u2 l3 u3 x1 x2 x3 : Int} {F : Int → Int} {N : xa_M} (hT : tk_M N) (hR : tk_R M N) (hB : tk_B (bk_p b) M N) (hFF : 1 ≤ x1 ∧ x1 ≤ 9 → tk_Y N x1 F) (hC0 : ∀ w : Int, 0 ≤ w → w < 14 → M 4 w = N 63 w) (k : ∀ (lo hi r : Int) (M1 : xa_M), tk_T N x1 x2 x3 r (M1 4) → (∀ q j, ¬ q = 4 → ¬ (15 ≤ q ∧ q ≤ 27) → M1 q j = M q j) → post (some (0, 0, lo, hi, r)) M1) : xa_C (xl_I b) A h0 (d + 7) 99 [(2, 0, 0, 0, 0), (0, 0, l1, u1, x1), (0, 0, l2, u2, x2), (0, 0, l3, u3, x3)] M post := by
  cases b
  · exact cx_99_50 hT hR hB hFF hC0 k
  · exact cx_99_55 hT hR hB hFF hC0 k
theorem iv_p99 (A : Nat → Nat) (cmp : Bool) : iv_pair (iv_J A) A 99 244 [0, 0, 0] cmp false := iv_armV (fun W b h as M hJ hM hInv hs hR => by
  obtain ⟨m1, ys, rfl, -, hs⟩ := iv_spc hs
  obtain ⟨m2, ys, rfl, -, hs⟩ := iv_spc hs
  obtain ⟨m3, ys, rfl, -, hs⟩ := iv_spc hs
  obtain rfl := iv_sp0 hs
  have b0 := xm_f0 (xa_H_Mok hM)
  have b6 := xm_f6 (xa_H_Mok hM)
  have r1 : iv_num h 1 9 = M 60 0 := hR.1.1
  have r2 : iv_num h 1 10 = M 60 6 := hR.1.2.1
  have r3 : ∀ i, 0 ≤ i → i < 14 → iv_num h 2 i = M 61 i ∧ iv_num h 3 i = M 62 i ∧ iv_num h 5 i = M 64 i ∧ iv_num h 6 i = M 65 i ∧ iv_num h 4 i = M 63 i := hR.1.2.2.1
  have r4 : ∀ i, 0 ≤ i → i < 16 → iv_num h 7 i = M 66 i ∧ iv_num h 8 i = M 67 i := hR.1.2.2.2
  have hS := hR.2
  obtain ⟨s1, s2, s3, s4⟩ := lm_Sx.mp hR.2
  have hMk := xa_H_Mok hM
  have b11 := xm_f11 hMk
  have hT := tk_M_of hMk hInv
  have hRc : tk_R (iv_num h) M := ⟨r1, r2, fun i i0 i1 => by
    obtain ⟨g1, g2, g3, g4, -⟩ := r3 i i0 i1
    exact ⟨g1, g2, g3, g4⟩, r4⟩
  have hB : tk_B (bk_p b) (iv_num h) M := ⟨s3, b11, fun p p0 p1 => by
    obtain ⟨g1, g2, -⟩ := s4 p p0 (by omega) p1
    have t1 := xm_t70 hMk p p0 (by omega)
    have t2 := xm_t71 hMk p p0 (by omega)
    have t3 := hInv.2.2.1 p p0 p1
    exact ⟨⟨g1, g2⟩, by omega, by omega⟩⟩
  have hx : ∃ F : Int → Int, (1 ≤ m1.toInt ∧ m1.toInt ≤ 9) → tk_Y M m1.toInt F := by
    by_cases c : 1 ≤ m1.toInt ∧ m1.toInt ≤ 9
    · obtain ⟨F, hF1, hF2⟩ := wr_ex hMk (X := m1.toInt) (by omega) b6.1 (fun i i0 i1 => tk_AB hT i i0 i1)
      exact ⟨F, fun _ => ⟨hF1, fun a _ _ => hF2 a⟩⟩
    · exact ⟨fun _ => 0, fun h => absurd h c⟩
  obtain ⟨F, hFF⟩ := hx
  have hc := cw_99 (b := b) (A := A) (h0 := h) (d := 53) (M := iv_num h) (N := M) (F := F) (l1 := -2147483648) (u1 := 2147483647) (l2 := -2147483648) (u2 := 2147483647) (l3 := -2147483648) (u3 := 2147483647) (x1 := m1.toInt) (x2 := m2.toInt) (x3 := m3.toInt) (post := fun o M1 => ∃ lo hi n, o = some (0, 0, lo, hi, n) ∧ (tk_T M m1.toInt m2.toInt m3.toInt n (M1 4) ∧ ∀ q j, ¬ q = 4 → ¬ (15 ≤ q ∧ q ≤ 27) → M1 q j = iv_num h q j)) hT hRc hB hFF (fun w w0 w1 => (r3 w w0 w1).2.2.2.2) (fun lo hi n M1 x1 x2 => ⟨lo, hi, n, rfl, x1, x2⟩)
  have hm := fun (h1 : g_H) => ms_fitF (A := A) (h0 := h1) (d := 56) (M := M) (l1 := -2147483648) (u1 := 2147483647) (l2 := -2147483648) (u2 := 2147483647) (l3 := -2147483648) (u3 := 2147483647) (a := m1.toInt) (x2 := m2.toInt) (x3 := m3.toInt) (post := fun o M2 => (∃ lo hi n, o = some (0, 0, lo, hi, n) ∧ (tk_T M m1.toInt m2.toInt m3.toInt n (M2 63) ∧ ∀ (q : Nat) (j : Int), ¬ xm_scr q j → ¬ q = 63 → M2 q j = M q j)) ∧ xm_Inv M2) hInv (fun lo hi n M2 x1 x2 x3 => ⟨⟨lo, hi, n, rfl, x1, x2⟩, x3⟩)
  refine ⟨[(2, 0, 0, 0, 0), (0, 0, -2147483648, 2147483647, m1.toInt), (0, 0, -2147483648, 2147483647, m2.toInt), (0, 0, -2147483648, 2147483647, m3.toInt)], [(2, 60, 0, 0, 0), (0, 0, -2147483648, 2147483647, m1.toInt), (0, 0, -2147483648, 2147483647, m2.toInt), (0, 0, -2147483648, 2147483647, m3.toInt)], _, _, ⟨rfl, iv_i m1, iv_i m2, iv_i m3, trivial⟩, ⟨rfl, iv_i m1, iv_i m2, iv_i m3, trivial⟩, fun n n' M1 M2 h1 h2 => ⟨fun _ => (tk_T_one hT h2.1 h1.1).1, fun x => h2.2 104 x (by unfold xm_scr; omega) (by decide), fun x => h2.2 105 x (by unfold xm_scr; omega) (by decide), ?_⟩, hc, hm⟩
  exact lm_R_tk hR (fun q j hC hq h4 => h1.2 q j h4 (by unfold lm_C at hC; omega)) (fun q j hC hq h63 => h2.2 q j (by unfold lm_C at hC; unfold xm_scr; omega) h63) (tk_T_one hT h2.1 h1.1).2)
