-- the sky (made by wip/u/mksky.py)
set_option maxRecDepth 20000
theorem xa_up_self {M : xa_M} {q : Nat} {j : Int} : xa_up M q j (M q j) = M := by
  funext q2 j2
  by_cases e : q2 = q ∧ j2 = j
  · obtain ⟨rfl, rfl⟩ := e
    exact xa_up_eq
  · exact xa_up_ne e
def ld_ok (a : Int) : Prop := 0 ≤ a ∧ a < 223
theorem cx_180_38 {b : Bool} {A : Nat → Nat} {h0 : g_H} {d : Nat} {M : xa_M} {post : Option xa_V → xa_M → Prop} {l1 u1 l2 u2 : Int} {x1 x2 : Int} (h1 : 0 ≤ x2 ∧ x2 ≤ 1) (k1 : (x1 < 0) → post (some (0, 0, (-1), (-1), (-1))) M) (k2 : (0 ≤ x1) → (x1 < 223) → ((M 39 x1) = x2) → post (some (0, 0, (-2147483648), 2147483647, M 38 4)) (xa_up M 39 x1 x2)) (k3 : (0 ≤ x1) → (x1 < 223) → (¬ (M 39 x1) = x2) → (x2 = 0) → post (some (0, 0, (-2147483648), 2147483647, xa_w32 ((M 38 4) + (-1)))) (xa_up (xa_up M 38 4 (xa_w32 ((M 38 4) + (-1)))) 39 x1 x2)) (k4 : (0 ≤ x1) → (x1 < 223) → (¬ (M 39 x1) = x2) → (¬ x2 = 0) → post (some (0, 0, (-2147483648), 2147483647, xa_w32 ((M 38 4) + 1))) (xa_up (xa_up M 38 4 (xa_w32 ((M 38 4) + 1))) 39 x1 x2)) (k5 : (0 ≤ x1) → (223 ≤ x1) → post (some (0, 0, (-1), (-1), (-1))) M) : xa_C (xl_I b) A h0 (d + 1) 180 [(2, 38, 0, 0, 0), (0, 0, l1, u1, x1), (0, 0, l2, u2, x2)] M post := by
  refine xa_C_arg [(2, 38, 0, 0, 0), (0, 0, (-2147483648), 2147483647, x1), (0, 0, (-2147483648), 2147483647, x2)] (xa_svR (xa_svI (fun _ _ _ _ => by omega) (xa_svI (fun _ _ _ _ => by omega) (xa_sv0)))) ?_
  refine xa_meth (Q0 := (3, 1, false, 0, 0, 2)) (by decide +kernel) ⟨rfl, rfl⟩ (full := s_c_180) rfl rfl ?_
  intro hM hv Q hgo
  refine hgo.1 34 [] 0 _ _ _ ?_
  refine And.intro ?_ ?_
  · intro (c1 : x1 < 0)
    show post (some (0, 0, (-1), (-1), (-1))) M
    exact k1 c1
  · intro (c1 : 0 ≤ x1)
    refine And.intro ?_ ?_
    · intro (c2 : x1 < 223)
      refine And.intro (show 0 ≤ x1 ∧ x1 < 223 by omega) ?_
      refine And.intro ?_ ?_
      · intro (c3 : (M 39 x1) = x2)
        refine And.intro (show 0 ≤ x1 ∧ x1 < 223 by omega) ?_
        refine And.intro (show 0 ≤ x2 ∧ x2 ≤ 1 by omega) ?_
        show post (some (0, 0, (-2147483648), 2147483647, M 38 4)) (xa_up M 39 x1 x2)
        exact k2 c1 c2 c3
      · intro (c3 : ¬ (M 39 x1) = x2)
        refine And.intro ?_ ?_
        · intro (c4 : x2 = 0)
          refine And.intro (show 0 ≤ x1 ∧ x1 < 223 by omega) ?_
          refine And.intro (show 0 ≤ x2 ∧ x2 ≤ 1 by omega) ?_
          show post (some (0, 0, (-2147483648), 2147483647, xa_w32 ((M 38 4) + (-1)))) (xa_up (xa_up M 38 4 (xa_w32 ((M 38 4) + (-1)))) 39 x1 x2)
          exact k3 c1 c2 c3 c4
        · intro (c4 : ¬ x2 = 0)
          refine And.intro (show 0 ≤ x1 ∧ x1 < 223 by omega) ?_
          refine And.intro (show 0 ≤ x2 ∧ x2 ≤ 1 by omega) ?_
          show post (some (0, 0, (-2147483648), 2147483647, xa_w32 ((M 38 4) + 1))) (xa_up (xa_up M 38 4 (xa_w32 ((M 38 4) + 1))) 39 x1 x2)
          exact k4 c1 c2 c3 c4
    · intro (c2 : 223 ≤ x1)
      show post (some (0, 0, (-1), (-1), (-1))) M
      exact k5 c1 c2
theorem cx_179_0 {b : Bool} {A : Nat → Nat} {h0 : g_H} {d : Nat} {M : xa_M} {post : Option xa_V → xa_M → Prop} {l1 u1 l2 u2 : Int} {x1 x2 : Int} (h1 : 0 ≤ x2 ∧ x2 ≤ 1) (k1 : (x1 < 0) → post (some (0, 0, (-1), (-1), (-1))) M) (k2 : (0 ≤ x1) → (x1 < 223) → ((M 39 x1) = x2) → post (some (0, 0, (-2147483648), 2147483647, M 38 4)) (xa_up M 39 x1 x2)) (k3 : (0 ≤ x1) → (x1 < 223) → (¬ (M 39 x1) = x2) → (x2 = 0) → post (some (0, 0, (-2147483648), 2147483647, xa_w32 ((M 38 4) + (-1)))) (xa_up (xa_up M 38 4 (xa_w32 ((M 38 4) + (-1)))) 39 x1 x2)) (k4 : (0 ≤ x1) → (x1 < 223) → (¬ (M 39 x1) = x2) → (¬ x2 = 0) → post (some (0, 0, (-2147483648), 2147483647, xa_w32 ((M 38 4) + 1))) (xa_up (xa_up M 38 4 (xa_w32 ((M 38 4) + 1))) 39 x1 x2)) (k5 : (0 ≤ x1) → (223 ≤ x1) → post (some (0, 0, (-1), (-1), (-1))) M) : xa_C (xl_I b) A h0 (d + 2) 179 [(2, 0, 0, 0, 0), (0, 0, l1, u1, x1), (0, 0, l2, u2, x2)] M post := by
  refine xa_C_arg [(2, 0, 0, 0, 0), (0, 0, (-2147483648), 2147483647, x1), (0, 0, (-2147483648), 2147483647, x2)] (xa_svR (xa_svI (fun _ _ _ _ => by omega) (xa_svI (fun _ _ _ _ => by omega) (xa_sv0)))) ?_
  refine xa_meth (Q0 := (3, 1, false, 0, 0, 11)) (by decide +kernel) ⟨rfl, rfl⟩ (full := s_c_179) rfl rfl ?_
  intro hM hv Q hgo
  refine hgo.1 10 [] 0 _ _ _ ?_
  show xa_C (xl_I b) A h0 _ 180 [(2, 38, 0, 0, 0), (0, 0, (-2147483648), 2147483647, x1), (0, 0, (-2147483648), 2147483647, x2)] M _
  refine cx_180_38 (show 0 ≤ x2 ∧ x2 ≤ 1 by omega) ?_ ?_ ?_ ?_ ?_
  · intro (i1 : x1 < 0)
    show post (some (0, 0, (-1), (-1), (-1))) M
    exact k1 i1
  · intro (i2 : 0 ≤ x1) (i3 : x1 < 223) (i4 : (M 39 x1) = x2)
    show post (some (0, 0, (-2147483648), 2147483647, M 38 4)) (xa_up M 39 x1 x2)
    exact k2 i2 i3 i4
  · intro (i5 : 0 ≤ x1) (i6 : x1 < 223) (i7 : ¬ (M 39 x1) = x2) (i8 : x2 = 0)
    show post (some (0, 0, (-2147483648), 2147483647, xa_w32 ((M 38 4) + (-1)))) (xa_up (xa_up M 38 4 (xa_w32 ((M 38 4) + (-1)))) 39 x1 x2)
    exact k3 i5 i6 i7 i8
  · intro (i9 : 0 ≤ x1) (i10 : x1 < 223) (i11 : ¬ (M 39 x1) = x2) (i12 : ¬ x2 = 0)
    show post (some (0, 0, (-2147483648), 2147483647, xa_w32 ((M 38 4) + 1))) (xa_up (xa_up M 38 4 (xa_w32 ((M 38 4) + 1))) 39 x1 x2)
    exact k4 i9 i10 i11 i12
  · intro (i13 : 0 ≤ x1) (i14 : 223 ≤ x1)
    show post (some (0, 0, (-1), (-1), (-1))) M
    exact k5 i13 i14
theorem cw_179 {b : Bool} {A : Nat → Nat} {h0 : g_H} {d : Nat} {M : xa_M} {post : Option xa_V → xa_M → Prop} {l1 u1 l2 u2 x1 x2 : Int} (h1 : 0 ≤ x2 ∧ x2 ≤ 1) (hn : -2147483648 ≤ M 38 4 ∧ M 38 4 ≤ 2147483647) (ho : 0 ≤ x1 → x1 < 223 → 0 ≤ M 39 x1 ∧ M 39 x1 ≤ 1) (k : ∀ o M1, iv_P (ld_ok x1) (xa_w32 (M 38 4 + (x2 - M 39 x1))) (xa_up (xa_up M 38 4 (xa_w32 (M 38 4 + (x2 - M 39 x1)))) 39 x1 x2) (-1) M o M1 → post o M1) : xa_C (xl_I b) A h0 (d + 2) 179 [(2, 0, 0, 0, 0), (0, 0, l1, u1, x1), (0, 0, l2, u2, x2)] M post := by
  refine cx_179_0 h1 ?_ ?_ ?_ ?_ ?_
  · intro (c0 : x1 < 0)
    exact k _ _ (Or.inr ⟨by unfold ld_ok; omega, ⟨_, _, rfl⟩, rfl⟩)
  · intro (c0 : 0 ≤ x1) (c1 : x1 < 223) (c2 : (M 39 x1) = x2)
    have ho := ho (by omega) (by omega)
    have ex : xa_w32 (M 38 4 + (x2 - M 39 x1)) = M 38 4 := (congrArg xa_w32 (show M 38 4 + (x2 - M 39 x1) = M 38 4 by omega)).trans (xa_w32_id (by omega) (by omega))
    exact k _ _ (Or.inl ⟨by unfold ld_ok; omega, iv_so ex.symm, by rw [ex, xa_up_self]⟩)
  · intro (c0 : 0 ≤ x1) (c1 : x1 < 223) (c2 : ¬ (M 39 x1) = x2) (c3 : x2 = 0)
    have ho := ho (by omega) (by omega)
    have ex : xa_w32 (M 38 4 + (x2 - M 39 x1)) = xa_w32 ((M 38 4) + (-1)) := congrArg xa_w32 (show M 38 4 + (x2 - M 39 x1) = (M 38 4) + (-1) by omega)
    exact k _ _ (Or.inl ⟨by unfold ld_ok; omega, iv_so ex.symm, by rw [ex]⟩)
  · intro (c0 : 0 ≤ x1) (c1 : x1 < 223) (c2 : ¬ (M 39 x1) = x2) (c3 : ¬ x2 = 0)
    have ho := ho (by omega) (by omega)
    have ex : xa_w32 (M 38 4 + (x2 - M 39 x1)) = xa_w32 ((M 38 4) + 1) := congrArg xa_w32 (show M 38 4 + (x2 - M 39 x1) = (M 38 4) + 1 by omega)
    exact k _ _ (Or.inl ⟨by unfold ld_ok; omega, iv_so ex.symm, by rw [ex]⟩)
  · intro (c0 : 0 ≤ x1) (c1 : 223 ≤ x1)
    exact k _ _ (Or.inr ⟨by unfold ld_ok; omega, ⟨_, _, rfl⟩, rfl⟩)
theorem ms_dialF {A : Nat → Nat} {h0 : g_H} {d : Nat} {M : xa_M} {post : Option xa_V → xa_M → Prop} {l1 u1 l2 u2 : Int} {a b : Int} (hb : 0 ≤ b ∧ b ≤ 1) (hI : xm_Inv M) (k : ∀ (o : Option xa_V) (M1 : xa_M), iv_P (ld_ok a) (xa_w32 (M 60 55 + (b - M 96 a))) (xa_up (xa_up (xa_up M 60 21 0) 60 55 (xa_w32 (M 60 55 + (b - M 96 a)))) 96 a b) (-1) (xa_up M 60 21 0) o M1 → xm_Inv M1 → post o M1) : xa_C xm_I A h0 (d + 2) 283 [(2, 60, 0, 0, 0), (0, 0, l1, u1, a), (0, 0, l2, u2, b)] M post := by
  refine xa_C_arg [(2, 60, 0, 0, 0), (0, 0, (-2147483648), 2147483647, a), (0, 0, (-2147483648), 2147483647, b)] (xa_svR (xa_svI (fun _ _ _ _ => by omega) (xa_svI (fun _ _ _ _ => by omega) xa_sv0))) ?_
  refine xa_meth (Q0 := (3, 1, false, 0, 0, 12)) (by decide +kernel) ⟨rfl, rfl⟩ (full := s_c_283) rfl rfl ?_
  intro hM hv Q hgo
  refine hgo.1 37 [] 0 _ _ _ ?_
  show xa_C xm_I A h0 _ 214 [(0, 0, (-2147483648), 2147483647, a), (0, 0, 0, 0, 0), (0, 0, 222, 222, 222)] (xa_up M 60 21 0) _
  refine ct_in ?_ ?_
  · intro (i1 : 0 ≤ a ∧ a ≤ 222)
    refine And.intro ?_ ?_
    · intro (c2 : b = 0)
      refine And.intro (show 0 ≤ a ∧ a < 223 by omega) ?_
      refine And.intro ?_ ?_
      · intro (c3 : (M 96 a) = 0)
        refine And.intro (show 0 ≤ a ∧ a < 223 by omega) ?_
        refine And.intro (show 0 ≤ b ∧ b ≤ 1 by omega) ?_
        show post (some (0, 0, (-2147483648), 2147483647, (M 60 55) + (0 - 0))) (xa_up (xa_up (xa_up M 60 21 0) 60 55 ((M 60 55) + (0 - 0))) 96 a b)
        have t96 := xm_t96 hM a (by omega) (by omega)
        have b55 : (-2147483648) ≤ M 60 55 ∧ M 60 55 ≤ 2147483647 := hM 60 _ _ rfl 55 (by decide) (show (0 : Nat) < 2 by decide)
        have ex : xa_w32 (M 60 55 + (b - M 96 a)) = (M 60 55) + (0 - 0) := (congrArg xa_w32 (show M 60 55 + (b - M 96 a) = (M 60 55) + (0 - 0) by omega)).trans (xa_w32_id (by omega) (by omega))
        exact k _ _ (Or.inl ⟨by unfold ld_ok; omega, iv_so ex.symm, by rw [ex]⟩) (xm_Inv_is (xm_is_u rfl (xm_is_u rfl (xm_is_u rfl xm_is_r))) hI)
      · intro (c3 : ¬ (M 96 a) = 0)
        refine And.intro (show 0 ≤ a ∧ a < 223 by omega) ?_
        refine And.intro (show 0 ≤ b ∧ b ≤ 1 by omega) ?_
        show post (some (0, 0, (-2147483648), 2147483647, xa_w32 ((M 60 55) + (0 - 1)))) (xa_up (xa_up (xa_up M 60 21 0) 60 55 (xa_w32 ((M 60 55) + (0 - 1)))) 96 a b)
        have t96 := xm_t96 hM a (by omega) (by omega)
        have b55 : (-2147483648) ≤ M 60 55 ∧ M 60 55 ≤ 2147483647 := hM 60 _ _ rfl 55 (by decide) (show (0 : Nat) < 2 by decide)
        have ex : xa_w32 (M 60 55 + (b - M 96 a)) = xa_w32 ((M 60 55) + (0 - 1)) := congrArg xa_w32 (show M 60 55 + (b - M 96 a) = (M 60 55) + (0 - 1) by omega)
        exact k _ _ (Or.inl ⟨by unfold ld_ok; omega, iv_so ex.symm, by rw [ex]⟩) (xm_Inv_is (xm_is_u rfl (xm_is_u rfl (xm_is_u rfl xm_is_r))) hI)
    · intro (c2 : ¬ b = 0)
      refine And.intro (show 0 ≤ a ∧ a < 223 by omega) ?_
      refine And.intro ?_ ?_
      · intro (c4 : (M 96 a) = 0)
        refine And.intro (show 0 ≤ a ∧ a < 223 by omega) ?_
        refine And.intro (show 0 ≤ b ∧ b ≤ 1 by omega) ?_
        show post (some (0, 0, (-2147483648), 2147483647, xa_w32 ((M 60 55) + (1 - 0)))) (xa_up (xa_up (xa_up M 60 21 0) 60 55 (xa_w32 ((M 60 55) + (1 - 0)))) 96 a b)
        have t96 := xm_t96 hM a (by omega) (by omega)
        have b55 : (-2147483648) ≤ M 60 55 ∧ M 60 55 ≤ 2147483647 := hM 60 _ _ rfl 55 (by decide) (show (0 : Nat) < 2 by decide)
        have ex : xa_w32 (M 60 55 + (b - M 96 a)) = xa_w32 ((M 60 55) + (1 - 0)) := congrArg xa_w32 (show M 60 55 + (b - M 96 a) = (M 60 55) + (1 - 0) by omega)
        exact k _ _ (Or.inl ⟨by unfold ld_ok; omega, iv_so ex.symm, by rw [ex]⟩) (xm_Inv_is (xm_is_u rfl (xm_is_u rfl (xm_is_u rfl xm_is_r))) hI)
      · intro (c4 : ¬ (M 96 a) = 0)
        refine And.intro (show 0 ≤ a ∧ a < 223 by omega) ?_
        refine And.intro (show 0 ≤ b ∧ b ≤ 1 by omega) ?_
        show post (some (0, 0, (-2147483648), 2147483647, (M 60 55) + (1 - 1))) (xa_up (xa_up (xa_up M 60 21 0) 60 55 ((M 60 55) + (1 - 1))) 96 a b)
        have t96 := xm_t96 hM a (by omega) (by omega)
        have b55 : (-2147483648) ≤ M 60 55 ∧ M 60 55 ≤ 2147483647 := hM 60 _ _ rfl 55 (by decide) (show (0 : Nat) < 2 by decide)
        have ex : xa_w32 (M 60 55 + (b - M 96 a)) = (M 60 55) + (1 - 1) := (congrArg xa_w32 (show M 60 55 + (b - M 96 a) = (M 60 55) + (1 - 1) by omega)).trans (xa_w32_id (by omega) (by omega))
        exact k _ _ (Or.inl ⟨by unfold ld_ok; omega, iv_so ex.symm, by rw [ex]⟩) (xm_Inv_is (xm_is_u rfl (xm_is_u rfl (xm_is_u rfl xm_is_r))) hI)
  · intro (i1 : ¬ (0 ≤ a ∧ a ≤ 222))
    show post (some (0, 0, (-1), (-1), (-1))) (xa_up M 60 21 0)
    exact k _ _ (Or.inr ⟨by unfold ld_ok; omega, ⟨_, _, rfl⟩, rfl⟩) (xm_Inv_is (xm_is_u rfl xm_is_r) hI)

theorem iv_p179 (A : Nat → Nat) (cmp : Bool) : iv_pair (iv_J A) A 179 283 [0, 1] cmp false := iv_armP (fun W b h as M hJ hM hInv hs hR => by
  obtain ⟨m1, ys, rfl, -, hs⟩ := iv_spc hs
  obtain ⟨m2, ys, rfl, hb, hs⟩ := iv_spc hs
  obtain rfl := iv_sp0 hs
  have hb := hb rfl
  have b0 := xm_f0 (xa_H_Mok hM)
  have b6 := xm_f6 (xa_H_Mok hM)
  have r1 : iv_num h 1 9 = M 60 0 := hR.1.1
  have r2 : iv_num h 1 10 = M 60 6 := hR.1.2.1
  have r3 : ∀ i, 0 ≤ i → i < 14 → iv_num h 2 i = M 61 i ∧ iv_num h 3 i = M 62 i ∧ iv_num h 5 i = M 64 i ∧ iv_num h 6 i = M 65 i := hR.1.2.2.1
  have r4 : ∀ i, 0 ≤ i → i < 16 → iv_num h 7 i = M 66 i ∧ iv_num h 8 i = M 67 i := hR.1.2.2.2
  have hS := hR.2
  have s1 : iv_num h 38 4 = M 60 55 := hS.1
  have s2 : iv_num h 38 5 = M 60 56 := hS.2.1
  have s3 : iv_num h 38 6 = M 60 59 := hS.2.2.1
  have s4 : ∀ i, 0 ≤ i → i < 223 → iv_num h 39 i = M 96 i := hS.2.2.2.1
  have s5 : ∀ i, 0 ≤ i → i < 20 → iv_num h 40 i = M 97 i := hS.2.2.2.2.1
  have s6 : ∀ i, 0 ≤ i → i < 20 → iv_num h 41 i = M 98 i := hS.2.2.2.2.2.1
  have s7 : ∀ i, 0 ≤ i → i < 8 → iv_num h 42 i = M 99 i := hS.2.2.2.2.2.2
  have hMk := xa_H_Mok hM
  have b55 : (-2147483648) ≤ M 60 55 ∧ M 60 55 ≤ 2147483647 := hMk 60 _ _ rfl 55 (by decide) (show (0 : Nat) < 2 by decide)
  have hc0 := cw_179 (b := b) (A := A) (h0 := h) (d := 58) (M := iv_num h) (l1 := -2147483648) (u1 := 2147483647) (l2 := -2147483648) (u2 := 2147483647) (x1 := m1.toInt) (x2 := m2.toInt) (by omega) (by omega) (fun c0 c1 => by rw [s4 _ c0 c1]; exact xm_t96 hMk _ c0 c1) (fun _ _ h => h)
  have hc : xa_C (xl_I b) A h 60 179 [(2, 0, 0, 0, 0), (0, 0, -2147483648, 2147483647, m1.toInt), (0, 0, -2147483648, 2147483647, m2.toInt)] (iv_num h) (iv_P (ld_ok m1.toInt) (xa_w32 (M 60 55 + (m2.toInt - M 96 m1.toInt))) (xa_up (xa_up (iv_num h) 38 4 (xa_w32 (M 60 55 + (m2.toInt - M 96 m1.toInt)))) 39 m1.toInt m2.toInt) (-1) (iv_num h)) := by
    by_cases c1 : 0 ≤ m1.toInt ∧ m1.toInt < 223
    · rw [s1, s4 _ c1.1 c1.2] at hc0
      exact hc0
    · exact xa_C_mono hc0 (fun o M1 hP => iv_P_no c1 c1 hP)
  have hm := fun (h1 : g_H) => ms_dialF (A := A) (h0 := h1) (d := 58) (M := M) (l1 := -2147483648) (u1 := 2147483647) (l2 := -2147483648) (u2 := 2147483647) (a := m1.toInt) (b := m2.toInt) (post := fun o M2 => iv_P (ld_ok m1.toInt) (xa_w32 (M 60 55 + (m2.toInt - M 96 m1.toInt))) _ (-1) _ o M2 ∧ xm_Inv M2) (by omega) hInv (fun o M1 hP hI => ⟨hP, hI⟩)
  refine ⟨[(2, 0, 0, 0, 0), (0, 0, -2147483648, 2147483647, m1.toInt), (0, 0, -2147483648, 2147483647, m2.toInt)], [(2, 60, 0, 0, 0), (0, 0, -2147483648, 2147483647, m1.toInt), (0, 0, -2147483648, 2147483647, m2.toInt)], _, _, _, _, _, _, _, ⟨rfl, iv_i m1, iv_i m2, trivial⟩, ⟨rfl, iv_i m1, iv_i m2, trivial⟩, hc, hm, fun hok => ⟨?_, fun z => ?_, fun z => ?_⟩, fun hok => ⟨?_, fun z => ?_, fun z => ?_⟩⟩
  · refine ⟨⟨?_, ?_, fun i i0 i1 => ?_, fun i i0 i1 => ?_⟩, ?_, ?_, ?_, fun i i0 i1 => ?_, fun i i0 i1 => ?_, fun i i0 i1 => ?_, fun i i0 i1 => ?_⟩
    · simp [xj, xa_up]
      exact r1
    · simp [xj, xa_up]
      exact r2
    · simp [xj, xa_up]
      exact r3 i i0 i1
    · simp [xj, xa_up]
      exact r4 i i0 i1
    · simp [xj, xa_up]
    · simp [xj, xa_up]
      exact s2
    · simp [xj, xa_up]
      exact s3
    · by_cases e : i = m1.toInt
      · simp [xj, xa_up, e]
      · simp [xj, xa_up, e]
        exact s4 i i0 i1
    · simp [xj, xa_up]
      exact s5 i i0 i1
    · simp [xj, xa_up]
      exact s6 i i0 i1
    · simp [xj, xa_up]
      exact s7 i i0 i1
  · simp [xa_up]
  · simp [xa_up]
  · refine ⟨⟨?_, ?_, fun i i0 i1 => ?_, fun i i0 i1 => ?_⟩, ?_, ?_, ?_, fun i i0 i1 => ?_, fun i i0 i1 => ?_, fun i i0 i1 => ?_, fun i i0 i1 => ?_⟩
    · simp [xj, xa_up]
      exact r1
    · simp [xj, xa_up]
      exact r2
    · simp [xj, xa_up]
      exact r3 i i0 i1
    · simp [xj, xa_up]
      exact r4 i i0 i1
    · simp [xj, xa_up]
      exact s1
    · simp [xj, xa_up]
      exact s2
    · simp [xj, xa_up]
      exact s3
    · simp [xj, xa_up]
      exact s4 i i0 i1
    · simp [xj, xa_up]
      exact s5 i i0 i1
    · simp [xj, xa_up]
      exact s6 i i0 i1
    · simp [xj, xa_up]
      exact s7 i i0 i1
  · simp [xa_up]
  · simp [xa_up])
def le_ok (a n : Int) : Prop := 0 ≤ a ∧ a ≤ 9999 ∧ n < 20
theorem cx_18_40 {b : Bool} {A : Nat → Nat} {h0 : g_H} {d : Nat} {M : xa_M} {post : Option xa_V → xa_M → Prop} {l1 u1 l2 u2 : Int} {i v : Int} (h1 : 0 ≤ i ∧ i < 20) (k1 : post none (xa_up M 40 i v)) : xa_C (xl_I b) A h0 (d + 1) 18 [(2, 40, 0, 0, 0), (0, 0, l1, u1, i), (0, 0, l2, u2, v)] M post := by
  refine xa_C_arg [(2, 40, 0, 0, 0), (0, 0, (-2147483648), 2147483647, i), (0, 0, (-2147483648), 2147483647, v)] (xa_svR (xa_svI (fun _ _ _ _ => by omega) (xa_svI (fun _ _ _ _ => by omega) xa_sv0))) ?_
  refine xa_meth (Q0 := (3, 0, false, 0, 0, 11)) (by decide +kernel) ⟨rfl, rfl⟩ (full := s_c_18) rfl rfl ?_
  intro hM hv Q hgo
  refine hgo.1 15 [] 0 _ _ _ ?_
  refine And.intro ?_ ?_
  · intro (c1 : i < 0)
    show post none M
    exact absurd h1 (by omega)
  · intro (c1 : 0 ≤ i)
    refine And.intro ?_ ?_
    · intro (c2 : 20 ≤ i)
      show post none M
      exact absurd h1 (by omega)
    · intro (c2 : i < 20)
      refine And.intro (show 0 ≤ i ∧ i < 20 by omega) ?_
      show post none (xa_up M 40 i v)
      exact k1
theorem cx_182_38 {b : Bool} {A : Nat → Nat} {h0 : g_H} {d : Nat} {M : xa_M} {post : Option xa_V → xa_M → Prop} {l1 u1 l2 u2 : Int} {x1 x2 : Int} (h1 : 0 ≤ x2 ∧ x2 ≤ 1) (h2 : 0 ≤ (M 38 5) ∧ (M 38 5) ≤ 20) (k1 : (x1 < 0) → post (some (0, 0, (-1), (-1), (-1))) M) (k2 : (0 ≤ x1) → (9999 < x1) → post (some (0, 0, (-1), (-1), (-1))) M) (k3 : (0 ≤ x1) → (x1 ≤ 9999) → ((M 38 5) < 20) → post (some (0, 0, 0, 20, (M 38 5) + 1)) (xa_up (xa_up (xa_up M 40 (M 38 5) x1) 41 (M 38 5) x2) 38 5 ((M 38 5) + 1))) (k4 : (0 ≤ x1) → (x1 ≤ 9999) → (20 ≤ (M 38 5)) → post (some (0, 0, (-1), (-1), (-1))) M) : xa_C (xl_I b) A h0 (d + 2) 182 [(2, 38, 0, 0, 0), (0, 0, l1, u1, x1), (0, 0, l2, u2, x2)] M post := by
  refine xa_C_arg [(2, 38, 0, 0, 0), (0, 0, (-2147483648), 2147483647, x1), (0, 0, (-2147483648), 2147483647, x2)] (xa_svR (xa_svI (fun _ _ _ _ => by omega) (xa_svI (fun _ _ _ _ => by omega) (xa_sv0)))) ?_
  refine xa_meth (Q0 := (3, 1, false, 0, 0, 2)) (by decide +kernel) ⟨rfl, rfl⟩ (full := s_c_182) rfl rfl ?_
  intro hM hv Q hgo
  refine hgo.1 36 [] 0 _ _ _ ?_
  refine And.intro ?_ ?_
  · intro (c1 : x1 < 0)
    show post (some (0, 0, (-1), (-1), (-1))) M
    exact k1 c1
  · intro (c1 : 0 ≤ x1)
    refine And.intro ?_ ?_
    · intro (c2 : 9999 < x1)
      show post (some (0, 0, (-1), (-1), (-1))) M
      exact k2 c1 c2
    · intro (c2 : x1 ≤ 9999)
      refine And.intro ?_ ?_
      · intro (c3 : (M 38 5) < 20)
        show xa_C (xl_I b) A h0 _ 18 [(2, 40, 0, 0, 0), (0, 0, 0, 20, M 38 5), (0, 0, (-2147483648), 2147483647, x1)] M _
        refine cx_18_40 (show 0 ≤ (M 38 5) ∧ (M 38 5) < 20 by omega) ?_
        refine And.intro (show 0 ≤ (M 38 5) ∧ (M 38 5) < 20 by omega) ?_
        refine And.intro (show 0 ≤ x2 ∧ x2 ≤ 1 by omega) ?_
        refine And.intro (show 0 ≤ ((M 38 5) + 1) ∧ ((M 38 5) + 1) ≤ 20 by omega) ?_
        show post (some (0, 0, 0, 20, (M 38 5) + 1)) (xa_up (xa_up (xa_up M 40 (M 38 5) x1) 41 (M 38 5) x2) 38 5 ((M 38 5) + 1))
        exact k3 c1 c2 c3
      · intro (c3 : 20 ≤ (M 38 5))
        show post (some (0, 0, (-1), (-1), (-1))) M
        exact k4 c1 c2 c3
theorem cx_181_0 {b : Bool} {A : Nat → Nat} {h0 : g_H} {d : Nat} {M : xa_M} {post : Option xa_V → xa_M → Prop} {l1 u1 l2 u2 : Int} {x1 x2 : Int} (h1 : 0 ≤ x2 ∧ x2 ≤ 1) (h2 : 0 ≤ (M 38 5) ∧ (M 38 5) ≤ 20) (k1 : (x1 < 0) → post (some (0, 0, (-1), (-1), (-1))) M) (k2 : (0 ≤ x1) → (9999 < x1) → post (some (0, 0, (-1), (-1), (-1))) M) (k3 : (0 ≤ x1) → (x1 ≤ 9999) → ((M 38 5) < 20) → post (some (0, 0, 0, 20, (M 38 5) + 1)) (xa_up (xa_up (xa_up M 40 (M 38 5) x1) 41 (M 38 5) x2) 38 5 ((M 38 5) + 1))) (k4 : (0 ≤ x1) → (x1 ≤ 9999) → (20 ≤ (M 38 5)) → post (some (0, 0, (-1), (-1), (-1))) M) : xa_C (xl_I b) A h0 (d + 3) 181 [(2, 0, 0, 0, 0), (0, 0, l1, u1, x1), (0, 0, l2, u2, x2)] M post := by
  refine xa_C_arg [(2, 0, 0, 0, 0), (0, 0, (-2147483648), 2147483647, x1), (0, 0, (-2147483648), 2147483647, x2)] (xa_svR (xa_svI (fun _ _ _ _ => by omega) (xa_svI (fun _ _ _ _ => by omega) (xa_sv0)))) ?_
  refine xa_meth (Q0 := (3, 1, false, 0, 0, 11)) (by decide +kernel) ⟨rfl, rfl⟩ (full := s_c_181) rfl rfl ?_
  intro hM hv Q hgo
  refine hgo.1 10 [] 0 _ _ _ ?_
  show xa_C (xl_I b) A h0 _ 182 [(2, 38, 0, 0, 0), (0, 0, (-2147483648), 2147483647, x1), (0, 0, (-2147483648), 2147483647, x2)] M _
  refine cx_182_38 (show 0 ≤ x2 ∧ x2 ≤ 1 by omega) (show 0 ≤ (M 38 5) ∧ (M 38 5) ≤ 20 by omega) ?_ ?_ ?_ ?_
  · intro (i1 : x1 < 0)
    show post (some (0, 0, (-1), (-1), (-1))) M
    exact k1 i1
  · intro (i2 : 0 ≤ x1) (i3 : 9999 < x1)
    show post (some (0, 0, (-1), (-1), (-1))) M
    exact k2 i2 i3
  · intro (i4 : 0 ≤ x1) (i5 : x1 ≤ 9999) (i6 : (M 38 5) < 20)
    show post (some (0, 0, 0, 20, (M 38 5) + 1)) (xa_up (xa_up (xa_up M 40 (M 38 5) x1) 41 (M 38 5) x2) 38 5 ((M 38 5) + 1))
    exact k3 i4 i5 i6
  · intro (i7 : 0 ≤ x1) (i8 : x1 ≤ 9999) (i9 : 20 ≤ (M 38 5))
    show post (some (0, 0, (-1), (-1), (-1))) M
    exact k4 i7 i8 i9
theorem cw_181 {b : Bool} {A : Nat → Nat} {h0 : g_H} {d : Nat} {M : xa_M} {post : Option xa_V → xa_M → Prop} {l1 u1 l2 u2 x1 x2 : Int} (h1 : 0 ≤ x2 ∧ x2 ≤ 1) (h2 : 0 ≤ (M 38 5) ∧ (M 38 5) ≤ 20) (k : ∀ o M1, iv_P (le_ok x1 (M 38 5)) (M 38 5 + 1) (xa_up (xa_up (xa_up M 40 (M 38 5) x1) 41 (M 38 5) x2) 38 5 (M 38 5 + 1)) (-1) M o M1 → post o M1) : xa_C (xl_I b) A h0 (d + 3) 181 [(2, 0, 0, 0, 0), (0, 0, l1, u1, x1), (0, 0, l2, u2, x2)] M post := by
  refine cx_181_0 h1 h2 ?_ ?_ ?_ ?_
  · intro (c0 : x1 < 0)
    exact k _ _ (Or.inr ⟨by unfold le_ok; omega, ⟨_, _, rfl⟩, rfl⟩)
  · intro (c0 : 0 ≤ x1) (c1 : 9999 < x1)
    exact k _ _ (Or.inr ⟨by unfold le_ok; omega, ⟨_, _, rfl⟩, rfl⟩)
  · intro (c0 : 0 ≤ x1) (c1 : x1 ≤ 9999) (c2 : (M 38 5) < 20)
    exact k _ _ (Or.inl ⟨by unfold le_ok; omega, ⟨_, _, rfl⟩, rfl⟩)
  · intro (c0 : 0 ≤ x1) (c1 : x1 ≤ 9999) (c2 : 20 ≤ (M 38 5))
    exact k _ _ (Or.inr ⟨by unfold le_ok; omega, ⟨_, _, rfl⟩, rfl⟩)
theorem ms_seenF {A : Nat → Nat} {h0 : g_H} {d : Nat} {M : xa_M} {post : Option xa_V → xa_M → Prop} {l1 u1 l2 u2 : Int} {a b : Int} (hb : 0 ≤ b ∧ b ≤ 1) (hI : xm_Inv M) (k : ∀ (o : Option xa_V) (M1 : xa_M), iv_P (le_ok a (M 60 56)) (M 60 56 + 1) (xa_up (xa_up (xa_up (xa_up M 60 21 0) 97 (M 60 56) a) 98 (M 60 56) b) 60 56 ((M 60 56) + 1)) (-1) (xa_up M 60 21 0) o M1 → xm_Inv M1 → post o M1) : xa_C xm_I A h0 (d + 2) 284 [(2, 60, 0, 0, 0), (0, 0, l1, u1, a), (0, 0, l2, u2, b)] M post := by
  refine xa_C_arg [(2, 60, 0, 0, 0), (0, 0, (-2147483648), 2147483647, a), (0, 0, (-2147483648), 2147483647, b)] (xa_svR (xa_svI (fun _ _ _ _ => by omega) (xa_svI (fun _ _ _ _ => by omega) xa_sv0))) ?_
  refine xa_meth (Q0 := (3, 1, false, 0, 0, 12)) (by decide +kernel) ⟨rfl, rfl⟩ (full := s_c_284) rfl rfl ?_
  intro hM hv Q hgo
  have b56 := xm_f56 hM
  refine hgo.1 37 [] 0 _ _ _ ?_
  show xa_C xm_I A h0 _ 214 [(0, 0, (-2147483648), 2147483647, a), (0, 0, 0, 0, 0), (0, 0, 9999, 9999, 9999)] (xa_up M 60 21 0) _
  refine ct_in ?_ ?_
  · intro (i1 : 0 ≤ a ∧ a ≤ 9999)
    refine And.intro ?_ ?_
    · intro (c2 : ¬ (M 60 56) = 20)
      refine And.intro (show 0 ≤ (M 60 56) ∧ (M 60 56) < 20 by omega) ?_
      refine And.intro (show 0 ≤ a ∧ a ≤ 9999 by omega) ?_
      refine And.intro (show 0 ≤ (M 60 56) ∧ (M 60 56) < 20 by omega) ?_
      refine And.intro (show 0 ≤ b ∧ b ≤ 1 by omega) ?_
      refine And.intro (show 0 ≤ ((M 60 56) + 1) ∧ ((M 60 56) + 1) ≤ 20 by omega) ?_
      show post (some (0, 0, 0, 20, (M 60 56) + 1)) (xa_up (xa_up (xa_up (xa_up M 60 21 0) 97 (M 60 56) a) 98 (M 60 56) b) 60 56 ((M 60 56) + 1))
      exact k _ _ (by first | exact Or.inr ⟨by unfold le_ok; omega, ⟨_, _, rfl⟩, rfl⟩ | exact Or.inl ⟨by unfold le_ok; omega, ⟨_, _, rfl⟩, rfl⟩) (xm_Inv_is (xm_is_u rfl (xm_is_u rfl (xm_is_u rfl (xm_is_u rfl xm_is_r)))) hI)
    · intro (c2 : (M 60 56) = 20)
      show post (some (0, 0, (-1), (-1), (-1))) (xa_up M 60 21 0)
      exact k _ _ (by first | exact Or.inr ⟨by unfold le_ok; omega, ⟨_, _, rfl⟩, rfl⟩ | exact Or.inl ⟨by unfold le_ok; omega, ⟨_, _, rfl⟩, rfl⟩) (xm_Inv_is (xm_is_u rfl xm_is_r) hI)
  · intro (i1 : ¬ (0 ≤ a ∧ a ≤ 9999))
    show post (some (0, 0, (-1), (-1), (-1))) (xa_up M 60 21 0)
    exact k _ _ (by first | exact Or.inr ⟨by unfold le_ok; omega, ⟨_, _, rfl⟩, rfl⟩ | exact Or.inl ⟨by unfold le_ok; omega, ⟨_, _, rfl⟩, rfl⟩) (xm_Inv_is (xm_is_u rfl xm_is_r) hI)

theorem iv_p181 (A : Nat → Nat) (cmp : Bool) : iv_pair (iv_J A) A 181 284 [0, 1] cmp false := iv_armP (fun W b h as M hJ hM hInv hs hR => by
  obtain ⟨m1, ys, rfl, -, hs⟩ := iv_spc hs
  obtain ⟨m2, ys, rfl, hb, hs⟩ := iv_spc hs
  obtain rfl := iv_sp0 hs
  have hb := hb rfl
  have b0 := xm_f0 (xa_H_Mok hM)
  have b6 := xm_f6 (xa_H_Mok hM)
  have r1 : iv_num h 1 9 = M 60 0 := hR.1.1
  have r2 : iv_num h 1 10 = M 60 6 := hR.1.2.1
  have r3 : ∀ i, 0 ≤ i → i < 14 → iv_num h 2 i = M 61 i ∧ iv_num h 3 i = M 62 i ∧ iv_num h 5 i = M 64 i ∧ iv_num h 6 i = M 65 i := hR.1.2.2.1
  have r4 : ∀ i, 0 ≤ i → i < 16 → iv_num h 7 i = M 66 i ∧ iv_num h 8 i = M 67 i := hR.1.2.2.2
  have hS := hR.2
  have s1 : iv_num h 38 4 = M 60 55 := hS.1
  have s2 : iv_num h 38 5 = M 60 56 := hS.2.1
  have s3 : iv_num h 38 6 = M 60 59 := hS.2.2.1
  have s4 : ∀ i, 0 ≤ i → i < 223 → iv_num h 39 i = M 96 i := hS.2.2.2.1
  have s5 : ∀ i, 0 ≤ i → i < 20 → iv_num h 40 i = M 97 i := hS.2.2.2.2.1
  have s6 : ∀ i, 0 ≤ i → i < 20 → iv_num h 41 i = M 98 i := hS.2.2.2.2.2.1
  have s7 : ∀ i, 0 ≤ i → i < 8 → iv_num h 42 i = M 99 i := hS.2.2.2.2.2.2
  have hMk := xa_H_Mok hM
  have b56 := xm_f56 hMk
  have hc := cw_181 (b := b) (A := A) (h0 := h) (d := 57) (M := iv_num h) (l1 := -2147483648) (u1 := 2147483647) (l2 := -2147483648) (u2 := 2147483647) (x1 := m1.toInt) (x2 := m2.toInt) (by omega) (by omega) (fun _ _ h => h)
  rw [s2] at hc
  have hm := fun (h1 : g_H) => ms_seenF (A := A) (h0 := h1) (d := 58) (M := M) (l1 := -2147483648) (u1 := 2147483647) (l2 := -2147483648) (u2 := 2147483647) (a := m1.toInt) (b := m2.toInt) (post := fun o M2 => iv_P (le_ok m1.toInt (M 60 56)) (M 60 56 + 1) _ (-1) _ o M2 ∧ xm_Inv M2) (by omega) hInv (fun o M1 hP hI => ⟨hP, hI⟩)
  refine ⟨[(2, 0, 0, 0, 0), (0, 0, -2147483648, 2147483647, m1.toInt), (0, 0, -2147483648, 2147483647, m2.toInt)], [(2, 60, 0, 0, 0), (0, 0, -2147483648, 2147483647, m1.toInt), (0, 0, -2147483648, 2147483647, m2.toInt)], _, _, _, _, _, _, _, ⟨rfl, iv_i m1, iv_i m2, trivial⟩, ⟨rfl, iv_i m1, iv_i m2, trivial⟩, hc, hm, fun hok => ⟨?_, fun z => ?_, fun z => ?_⟩, fun hok => ⟨?_, fun z => ?_, fun z => ?_⟩⟩
  · refine ⟨⟨?_, ?_, fun i i0 i1 => ?_, fun i i0 i1 => ?_⟩, ?_, ?_, ?_, fun i i0 i1 => ?_, fun i i0 i1 => ?_, fun i i0 i1 => ?_, fun i i0 i1 => ?_⟩
    · simp [xj, xa_up]
      exact r1
    · simp [xj, xa_up]
      exact r2
    · simp [xj, xa_up]
      exact r3 i i0 i1
    · simp [xj, xa_up]
      exact r4 i i0 i1
    · simp [xj, xa_up]
      exact s1
    · simp [xj, xa_up]
    · simp [xj, xa_up]
      exact s3
    · simp [xj, xa_up]
      exact s4 i i0 i1
    · by_cases e : i = M 60 56
      · simp [xj, xa_up, e]
      · simp [xj, xa_up, e]
        exact s5 i i0 i1
    · by_cases e : i = M 60 56
      · simp [xj, xa_up, e]
      · simp [xj, xa_up, e]
        exact s6 i i0 i1
    · simp [xj, xa_up]
      exact s7 i i0 i1
  · simp [xa_up]
  · simp [xa_up]
  · refine ⟨⟨?_, ?_, fun i i0 i1 => ?_, fun i i0 i1 => ?_⟩, ?_, ?_, ?_, fun i i0 i1 => ?_, fun i i0 i1 => ?_, fun i i0 i1 => ?_, fun i i0 i1 => ?_⟩
    · simp [xj, xa_up]
      exact r1
    · simp [xj, xa_up]
      exact r2
    · simp [xj, xa_up]
      exact r3 i i0 i1
    · simp [xj, xa_up]
      exact r4 i i0 i1
    · simp [xj, xa_up]
      exact s1
    · simp [xj, xa_up]
      exact s2
    · simp [xj, xa_up]
      exact s3
    · simp [xj, xa_up]
      exact s4 i i0 i1
    · simp [xj, xa_up]
      exact s5 i i0 i1
    · simp [xj, xa_up]
      exact s6 i i0 i1
    · simp [xj, xa_up]
      exact s7 i i0 i1
  · simp [xa_up]
  · simp [xa_up])
def lg_ok (a n : Int) : Prop := 0 ≤ a ∧ a ≤ 999 ∧ n < 8
theorem cx_18_42 {b : Bool} {A : Nat → Nat} {h0 : g_H} {d : Nat} {M : xa_M} {post : Option xa_V → xa_M → Prop} {l1 u1 l2 u2 : Int} {i v : Int} (h1 : 0 ≤ i ∧ i < 8) (k1 : post none (xa_up M 42 i v)) : xa_C (xl_I b) A h0 (d + 1) 18 [(2, 42, 0, 0, 0), (0, 0, l1, u1, i), (0, 0, l2, u2, v)] M post := by
  refine xa_C_arg [(2, 42, 0, 0, 0), (0, 0, (-2147483648), 2147483647, i), (0, 0, (-2147483648), 2147483647, v)] (xa_svR (xa_svI (fun _ _ _ _ => by omega) (xa_svI (fun _ _ _ _ => by omega) xa_sv0))) ?_
  refine xa_meth (Q0 := (3, 0, false, 0, 0, 11)) (by decide +kernel) ⟨rfl, rfl⟩ (full := s_c_18) rfl rfl ?_
  intro hM hv Q hgo
  refine hgo.1 15 [] 0 _ _ _ ?_
  refine And.intro ?_ ?_
  · intro (c1 : i < 0)
    show post none M
    exact absurd h1 (by omega)
  · intro (c1 : 0 ≤ i)
    refine And.intro ?_ ?_
    · intro (c2 : 8 ≤ i)
      show post none M
      exact absurd h1 (by omega)
    · intro (c2 : i < 8)
      refine And.intro (show 0 ≤ i ∧ i < 8 by omega) ?_
      show post none (xa_up M 42 i v)
      exact k1
theorem cx_184_38 {b : Bool} {A : Nat → Nat} {h0 : g_H} {d : Nat} {M : xa_M} {post : Option xa_V → xa_M → Prop} {l1 u1 : Int} {x1 : Int} (h1 : 0 ≤ (M 38 6) ∧ (M 38 6) ≤ 8) (k1 : (x1 < 0) → post (some (0, 0, (-1), (-1), (-1))) M) (k2 : (0 ≤ x1) → (999 < x1) → post (some (0, 0, (-1), (-1), (-1))) M) (k3 : (0 ≤ x1) → (x1 ≤ 999) → ((M 38 6) < 8) → post (some (0, 0, (-2147483648), 2147483647, xa_w32 ((M 38 6) + 1))) (xa_up (xa_up M 42 (M 38 6) x1) 38 6 (xa_w32 ((M 38 6) + 1)))) (k4 : (0 ≤ x1) → (x1 ≤ 999) → (8 ≤ (M 38 6)) → post (some (0, 0, (-1), (-1), (-1))) M) : xa_C (xl_I b) A h0 (d + 2) 184 [(2, 38, 0, 0, 0), (0, 0, l1, u1, x1)] M post := by
  refine xa_C_arg [(2, 38, 0, 0, 0), (0, 0, (-2147483648), 2147483647, x1)] (xa_svR (xa_svI (fun _ _ _ _ => by omega) (xa_sv0))) ?_
  refine xa_meth (Q0 := (2, 1, false, 0, 0, 2)) (by decide +kernel) ⟨rfl, rfl⟩ (full := s_c_184) rfl rfl ?_
  intro hM hv Q hgo
  refine hgo.1 28 [] 0 _ _ _ ?_
  refine And.intro ?_ ?_
  · intro (c1 : x1 < 0)
    show post (some (0, 0, (-1), (-1), (-1))) M
    exact k1 c1
  · intro (c1 : 0 ≤ x1)
    refine And.intro ?_ ?_
    · intro (c2 : 999 < x1)
      show post (some (0, 0, (-1), (-1), (-1))) M
      exact k2 c1 c2
    · intro (c2 : x1 ≤ 999)
      refine And.intro ?_ ?_
      · intro (c3 : (M 38 6) < 8)
        show xa_C (xl_I b) A h0 _ 18 [(2, 42, 0, 0, 0), (0, 0, (-2147483648), 2147483647, M 38 6), (0, 0, (-2147483648), 2147483647, x1)] M _
        refine cx_18_42 (show 0 ≤ (M 38 6) ∧ (M 38 6) < 8 by omega) ?_
        show post (some (0, 0, (-2147483648), 2147483647, xa_w32 ((M 38 6) + 1))) (xa_up (xa_up M 42 (M 38 6) x1) 38 6 (xa_w32 ((M 38 6) + 1)))
        exact k3 c1 c2 c3
      · intro (c3 : 8 ≤ (M 38 6))
        show post (some (0, 0, (-1), (-1), (-1))) M
        exact k4 c1 c2 c3
theorem cx_183_0 {b : Bool} {A : Nat → Nat} {h0 : g_H} {d : Nat} {M : xa_M} {post : Option xa_V → xa_M → Prop} {l1 u1 : Int} {x1 : Int} (h1 : 0 ≤ (M 38 6) ∧ (M 38 6) ≤ 8) (k1 : (x1 < 0) → post (some (0, 0, (-1), (-1), (-1))) M) (k2 : (0 ≤ x1) → (999 < x1) → post (some (0, 0, (-1), (-1), (-1))) M) (k3 : (0 ≤ x1) → (x1 ≤ 999) → ((M 38 6) < 8) → post (some (0, 0, (-2147483648), 2147483647, xa_w32 ((M 38 6) + 1))) (xa_up (xa_up M 42 (M 38 6) x1) 38 6 (xa_w32 ((M 38 6) + 1)))) (k4 : (0 ≤ x1) → (x1 ≤ 999) → (8 ≤ (M 38 6)) → post (some (0, 0, (-1), (-1), (-1))) M) : xa_C (xl_I b) A h0 (d + 3) 183 [(2, 0, 0, 0, 0), (0, 0, l1, u1, x1)] M post := by
  refine xa_C_arg [(2, 0, 0, 0, 0), (0, 0, (-2147483648), 2147483647, x1)] (xa_svR (xa_svI (fun _ _ _ _ => by omega) (xa_sv0))) ?_
  refine xa_meth (Q0 := (2, 1, false, 0, 0, 11)) (by decide +kernel) ⟨rfl, rfl⟩ (full := s_c_183) rfl rfl ?_
  intro hM hv Q hgo
  refine hgo.1 9 [] 0 _ _ _ ?_
  show xa_C (xl_I b) A h0 _ 184 [(2, 38, 0, 0, 0), (0, 0, (-2147483648), 2147483647, x1)] M _
  refine cx_184_38 (show 0 ≤ (M 38 6) ∧ (M 38 6) ≤ 8 by omega) ?_ ?_ ?_ ?_
  · intro (i1 : x1 < 0)
    show post (some (0, 0, (-1), (-1), (-1))) M
    exact k1 i1
  · intro (i2 : 0 ≤ x1) (i3 : 999 < x1)
    show post (some (0, 0, (-1), (-1), (-1))) M
    exact k2 i2 i3
  · intro (i4 : 0 ≤ x1) (i5 : x1 ≤ 999) (i6 : (M 38 6) < 8)
    show post (some (0, 0, (-2147483648), 2147483647, xa_w32 ((M 38 6) + 1))) (xa_up (xa_up M 42 (M 38 6) x1) 38 6 (xa_w32 ((M 38 6) + 1)))
    exact k3 i4 i5 i6
  · intro (i7 : 0 ≤ x1) (i8 : x1 ≤ 999) (i9 : 8 ≤ (M 38 6))
    show post (some (0, 0, (-1), (-1), (-1))) M
    exact k4 i7 i8 i9
theorem cw_183 {b : Bool} {A : Nat → Nat} {h0 : g_H} {d : Nat} {M : xa_M} {post : Option xa_V → xa_M → Prop} {l1 u1 x1 : Int} (h1 : 0 ≤ (M 38 6) ∧ (M 38 6) ≤ 8) (k : ∀ o M1, iv_P (lg_ok x1 (M 38 6)) (M 38 6 + 1) (xa_up (xa_up M 42 (M 38 6) x1) 38 6 (M 38 6 + 1)) (-1) M o M1 → post o M1) : xa_C (xl_I b) A h0 (d + 3) 183 [(2, 0, 0, 0, 0), (0, 0, l1, u1, x1)] M post := by
  refine cx_183_0 h1 ?_ ?_ ?_ ?_
  · intro (c0 : x1 < 0)
    exact k _ _ (Or.inr ⟨by unfold lg_ok; omega, ⟨_, _, rfl⟩, rfl⟩)
  · intro (c0 : 0 ≤ x1) (c1 : 999 < x1)
    exact k _ _ (Or.inr ⟨by unfold lg_ok; omega, ⟨_, _, rfl⟩, rfl⟩)
  · intro (c0 : 0 ≤ x1) (c1 : x1 ≤ 999) (c2 : (M 38 6) < 8)
    have ex : M 38 6 + 1 = xa_w32 (M 38 6 + 1) := (xa_w32_id (by omega) (by omega)).symm
    exact k _ _ (Or.inl ⟨by unfold lg_ok; omega, iv_so ex.symm, by rw [← ex]⟩)
  · intro (c0 : 0 ≤ x1) (c1 : x1 ≤ 999) (c2 : 8 ≤ (M 38 6))
    exact k _ _ (Or.inr ⟨by unfold lg_ok; omega, ⟨_, _, rfl⟩, rfl⟩)
theorem ms_gamesF {A : Nat → Nat} {h0 : g_H} {d : Nat} {M : xa_M} {post : Option xa_V → xa_M → Prop} {l1 u1 : Int} {a : Int} (hI : xm_Inv M) (k : ∀ (o : Option xa_V) (M1 : xa_M), iv_P (lg_ok a (M 60 59)) (M 60 59 + 1) (xa_up (xa_up (xa_up M 60 21 0) 99 (M 60 59) a) 60 59 ((M 60 59) + 1)) (-1) (xa_up M 60 21 0) o M1 → xm_Inv M1 → post o M1) : xa_C xm_I A h0 (d + 2) 285 [(2, 60, 0, 0, 0), (0, 0, l1, u1, a)] M post := by
  refine xa_C_arg [(2, 60, 0, 0, 0), (0, 0, (-2147483648), 2147483647, a)] (xa_svR (xa_svI (fun _ _ _ _ => by omega) xa_sv0)) ?_
  refine xa_meth (Q0 := (2, 1, false, 0, 0, 12)) (by decide +kernel) ⟨rfl, rfl⟩ (full := s_c_285) rfl rfl ?_
  intro hM hv Q hgo
  have b59 := xm_f59 hM
  refine hgo.1 31 [] 0 _ _ _ ?_
  show xa_C xm_I A h0 _ 214 [(0, 0, (-2147483648), 2147483647, a), (0, 0, 0, 0, 0), (0, 0, 999, 999, 999)] (xa_up M 60 21 0) _
  refine ct_in ?_ ?_
  · intro (i1 : 0 ≤ a ∧ a ≤ 999)
    refine And.intro ?_ ?_
    · intro (c2 : ¬ (M 60 59) = 8)
      refine And.intro (show 0 ≤ (M 60 59) ∧ (M 60 59) < 8 by omega) ?_
      refine And.intro (show 0 ≤ a ∧ a ≤ 999 by omega) ?_
      refine And.intro (show 0 ≤ ((M 60 59) + 1) ∧ ((M 60 59) + 1) ≤ 8 by omega) ?_
      show post (some (0, 0, 0, 8, (M 60 59) + 1)) (xa_up (xa_up (xa_up M 60 21 0) 99 (M 60 59) a) 60 59 ((M 60 59) + 1))
      exact k _ _ (by first | exact Or.inr ⟨by unfold lg_ok; omega, ⟨_, _, rfl⟩, rfl⟩ | exact Or.inl ⟨by unfold lg_ok; omega, ⟨_, _, rfl⟩, rfl⟩) (xm_Inv_is (xm_is_u rfl (xm_is_u rfl (xm_is_u rfl xm_is_r))) hI)
    · intro (c2 : (M 60 59) = 8)
      show post (some (0, 0, (-1), (-1), (-1))) (xa_up M 60 21 0)
      exact k _ _ (by first | exact Or.inr ⟨by unfold lg_ok; omega, ⟨_, _, rfl⟩, rfl⟩ | exact Or.inl ⟨by unfold lg_ok; omega, ⟨_, _, rfl⟩, rfl⟩) (xm_Inv_is (xm_is_u rfl xm_is_r) hI)
  · intro (i1 : ¬ (0 ≤ a ∧ a ≤ 999))
    show post (some (0, 0, (-1), (-1), (-1))) (xa_up M 60 21 0)
    exact k _ _ (by first | exact Or.inr ⟨by unfold lg_ok; omega, ⟨_, _, rfl⟩, rfl⟩ | exact Or.inl ⟨by unfold lg_ok; omega, ⟨_, _, rfl⟩, rfl⟩) (xm_Inv_is (xm_is_u rfl xm_is_r) hI)

theorem iv_p183 (A : Nat → Nat) (cmp : Bool) : iv_pair (iv_J A) A 183 285 [0] cmp false := iv_armP (fun W b h as M hJ hM hInv hs hR => by
  obtain ⟨m1, ys, rfl, -, hs⟩ := iv_spc hs
  obtain rfl := iv_sp0 hs
  have b0 := xm_f0 (xa_H_Mok hM)
  have b6 := xm_f6 (xa_H_Mok hM)
  have r1 : iv_num h 1 9 = M 60 0 := hR.1.1
  have r2 : iv_num h 1 10 = M 60 6 := hR.1.2.1
  have r3 : ∀ i, 0 ≤ i → i < 14 → iv_num h 2 i = M 61 i ∧ iv_num h 3 i = M 62 i ∧ iv_num h 5 i = M 64 i ∧ iv_num h 6 i = M 65 i := hR.1.2.2.1
  have r4 : ∀ i, 0 ≤ i → i < 16 → iv_num h 7 i = M 66 i ∧ iv_num h 8 i = M 67 i := hR.1.2.2.2
  have hS := hR.2
  have s1 : iv_num h 38 4 = M 60 55 := hS.1
  have s2 : iv_num h 38 5 = M 60 56 := hS.2.1
  have s3 : iv_num h 38 6 = M 60 59 := hS.2.2.1
  have s4 : ∀ i, 0 ≤ i → i < 223 → iv_num h 39 i = M 96 i := hS.2.2.2.1
  have s5 : ∀ i, 0 ≤ i → i < 20 → iv_num h 40 i = M 97 i := hS.2.2.2.2.1
  have s6 : ∀ i, 0 ≤ i → i < 20 → iv_num h 41 i = M 98 i := hS.2.2.2.2.2.1
  have s7 : ∀ i, 0 ≤ i → i < 8 → iv_num h 42 i = M 99 i := hS.2.2.2.2.2.2
  have hMk := xa_H_Mok hM
  have b59 := xm_f59 hMk
  have hc := cw_183 (b := b) (A := A) (h0 := h) (d := 57) (M := iv_num h) (l1 := -2147483648) (u1 := 2147483647) (x1 := m1.toInt) (by omega) (fun _ _ h => h)
  rw [s3] at hc
  have hm := fun (h1 : g_H) => ms_gamesF (A := A) (h0 := h1) (d := 58) (M := M) (l1 := -2147483648) (u1 := 2147483647) (a := m1.toInt) (post := fun o M2 => iv_P (lg_ok m1.toInt (M 60 59)) (M 60 59 + 1) _ (-1) _ o M2 ∧ xm_Inv M2) hInv (fun o M1 hP hI => ⟨hP, hI⟩)
  refine ⟨[(2, 0, 0, 0, 0), (0, 0, -2147483648, 2147483647, m1.toInt)], [(2, 60, 0, 0, 0), (0, 0, -2147483648, 2147483647, m1.toInt)], _, _, _, _, _, _, _, ⟨rfl, iv_i m1, trivial⟩, ⟨rfl, iv_i m1, trivial⟩, hc, hm, fun hok => ⟨?_, fun z => ?_, fun z => ?_⟩, fun hok => ⟨?_, fun z => ?_, fun z => ?_⟩⟩
  · refine ⟨⟨?_, ?_, fun i i0 i1 => ?_, fun i i0 i1 => ?_⟩, ?_, ?_, ?_, fun i i0 i1 => ?_, fun i i0 i1 => ?_, fun i i0 i1 => ?_, fun i i0 i1 => ?_⟩
    · simp [xj, xa_up]
      exact r1
    · simp [xj, xa_up]
      exact r2
    · simp [xj, xa_up]
      exact r3 i i0 i1
    · simp [xj, xa_up]
      exact r4 i i0 i1
    · simp [xj, xa_up]
      exact s1
    · simp [xj, xa_up]
      exact s2
    · simp [xj, xa_up]
    · simp [xj, xa_up]
      exact s4 i i0 i1
    · simp [xj, xa_up]
      exact s5 i i0 i1
    · simp [xj, xa_up]
      exact s6 i i0 i1
    · by_cases e : i = M 60 59
      · simp [xj, xa_up, e]
      · simp [xj, xa_up, e]
        exact s7 i i0 i1
  · simp [xa_up]
  · simp [xa_up]
  · refine ⟨⟨?_, ?_, fun i i0 i1 => ?_, fun i i0 i1 => ?_⟩, ?_, ?_, ?_, fun i i0 i1 => ?_, fun i i0 i1 => ?_, fun i i0 i1 => ?_, fun i i0 i1 => ?_⟩
    · simp [xj, xa_up]
      exact r1
    · simp [xj, xa_up]
      exact r2
    · simp [xj, xa_up]
      exact r3 i i0 i1
    · simp [xj, xa_up]
      exact r4 i i0 i1
    · simp [xj, xa_up]
      exact s1
    · simp [xj, xa_up]
      exact s2
    · simp [xj, xa_up]
      exact s3
    · simp [xj, xa_up]
      exact s4 i i0 i1
    · simp [xj, xa_up]
      exact s5 i i0 i1
    · simp [xj, xa_up]
      exact s6 i i0 i1
    · simp [xj, xa_up]
      exact s7 i i0 i1
  · simp [xa_up]
  · simp [xa_up])
/-- a pair of calls that leave what is told, their answer a number that both know -/
theorem iv_armK {A : Nat → Nat} {jx jm : Nat} {spec : List Nat} {cmp : Bool} (H : ∀ (W : y_W) (b : Bool) (h : g_H) (as : List Value) (M : xa_M), iv_JW A W b h → xa_H xm_I A M h h → xm_Inv M → iv_sp spec as → lm_R (xj (iv_num h) M) → ∃ (vs ms : List xa_V) (n : Int), xa_gS A vs (.ref (A 0) :: as) ∧ xa_gS A ms (.ref (A 60) :: as) ∧ xa_C (xl_I b) A h 60 jx vs (iv_num h) (fun o M1 => (∃ lo hi, o = some (0, 0, lo, hi, n)) ∧ ∀ q j, lm_C q j → q < 60 → M1 q j = iv_num h q j) ∧ ∀ h1, xa_C xm_I A h1 60 jm ms M (fun o M2 => (∃ lo hi, o = some (0, 0, lo, hi, n)) ∧ xk_U M M2 ∧ xm_Inv M2)) : iv_pair (iv_J A) A jx jm spec cmp false := by
  intro h as hI hs
  obtain ⟨W, b, hJ⟩ := hI
  obtain ⟨M, hM, hInv⟩ := hJ.1.2.2
  obtain ⟨vs, ms, n, g1, g2, g3, g4⟩ := H W b h as M hJ hM hInv hs (iv_xj hJ hM)
  refine ⟨0, 0, by decide, by decide, g_run_mono (iv_xrun hJ g1 g3) (fun r1 h1 hp => ?_)⟩
  obtain ⟨v, M1, ⟨⟨lo, hi, rfl⟩, hk⟩, hr, hX⟩ := hp
  obtain ⟨hI1, km⟩ := xc_B (xl_fit b) hJ.1 hX
  have hM1 := km M hM
  obtain ⟨z, rfl, hz⟩ := iv_gRi hr
  refine ⟨z, rfl, iv_sh_ok (iv_iW_inv hI1), g_run_mono (iv_mrun hM1 g2 (g4 h1)) (fun r2 h2 hp2 => ?_)⟩
  obtain ⟨v2, M2, ⟨⟨lo2, hi2, rfl⟩, hu, hInv2⟩, hr2, hM2⟩ := hp2
  obtain ⟨z2, rfl, hz2⟩ := iv_gRi hr2
  refine ⟨⟨z2, rfl, fun _ => Int32.toInt_inj.mp (by rw [hz, hz2])⟩, W, b, iv_join hJ hM hX hM2 hInv2 (fun x => hu 104 x rfl) (fun x => hu 105 x rfl) (lm_R_k (fun q j hC => ?_) (iv_xj hJ hM))⟩
  unfold xj
  by_cases hq : q < 60
  · rw [if_pos hq, if_pos hq]
    exact hk q j hC hq
  · rw [if_neg hq, if_neg hq]
    refine hu q j ?_
    unfold lm_C at hC
    unfold xk_B
    simp only [Bool.or_eq_true, Bool.and_eq_true, Nat.beq_eq, decide_eq_true_eq]
    omega
def yr_P (n : Int) (m : Int → Int) (r : Int) : Prop := (n = 0 ∧ r = -1) ∨ (¬ n = 0 ∧ (∀ k, 1 ≤ k → k < n → m k % 4 = m 0 % 4) ∧ r = (4 - m 0 % 4) % 4) ∨ (¬ n = 0 ∧ (∃ k, 1 ≤ k ∧ k < n ∧ ¬ m k % 4 = m 0 % 4) ∧ r = -2)
theorem yr_one {n : Int} {m m' : Int → Int} {r r' : Int} (hn : 0 ≤ n) (e : ∀ k, 0 ≤ k → k < n → m k = m' k) (h : yr_P n m r) (h' : yr_P n m' r') : r = r' := by
  rcases h with ⟨a1, a2⟩ | ⟨a1, a2, a3⟩ | ⟨a1, ⟨k, k1, k2, k3⟩, a3⟩
  · rcases h' with ⟨b1, b2⟩ | ⟨b1, b2, b3⟩ | ⟨b1, b2, b3⟩
    · omega
    · exact (b1 a1).elim
    · exact (b1 a1).elim
  · have e0 := e 0 (by omega) (by omega)
    rcases h' with ⟨b1, b2⟩ | ⟨b1, b2, b3⟩ | ⟨b1, ⟨k, k1, k2, k3⟩, b3⟩
    · exact (a1 b1).elim
    · rw [a3, b3, e0]
    · exfalso
      apply k3
      rw [← e k (by omega) k2, ← e0]
      exact a2 k k1 k2
  · have e0 := e 0 (by omega) (by omega)
    rcases h' with ⟨b1, b2⟩ | ⟨b1, b2, b3⟩ | ⟨b1, b2, b3⟩
    · exact (a1 b1).elim
    · exfalso
      apply k3
      rw [e k (by omega) k2, e0]
      exact b2 k k1 k2
    · omega
/-- a pair of calls that leave what is told; what both know of their answers makes them one -/
theorem iv_armU {A : Nat → Nat} {jx jm : Nat} {spec : List Nat} {cmp : Bool} (H : ∀ (W : y_W) (b : Bool) (h : g_H) (as : List Value) (M : xa_M), iv_JW A W b h → xa_H xm_I A M h h → xm_Inv M → iv_sp spec as → lm_R (xj (iv_num h) M) → ∃ (vs ms : List xa_V) (Px Pm : Int → Prop), xa_gS A vs (.ref (A 0) :: as) ∧ xa_gS A ms (.ref (A 60) :: as) ∧ (∀ r r', Px r → Pm r' → r = r') ∧ xa_C (xl_I b) A h 60 jx vs (iv_num h) (fun o M1 => (∃ lo hi n, o = some (0, 0, lo, hi, n) ∧ Px n) ∧ ∀ q j, lm_C q j → q < 60 → M1 q j = iv_num h q j) ∧ ∀ h1, xa_C xm_I A h1 60 jm ms M (fun o M2 => (∃ lo hi n, o = some (0, 0, lo, hi, n) ∧ Pm n) ∧ xk_U M M2 ∧ xm_Inv M2)) : iv_pair (iv_J A) A jx jm spec cmp false := by
  intro h as hI hs
  obtain ⟨W, b, hJ⟩ := hI
  obtain ⟨M, hM, hInv⟩ := hJ.1.2.2
  obtain ⟨vs, ms, Px, Pm, g1, g2, g0, g3, g4⟩ := H W b h as M hJ hM hInv hs (iv_xj hJ hM)
  refine ⟨0, 0, by decide, by decide, g_run_mono (iv_xrun hJ g1 g3) (fun r1 h1 hp => ?_)⟩
  obtain ⟨v, M1, ⟨⟨lo, hi, n, rfl, hn⟩, hk⟩, hr, hX⟩ := hp
  obtain ⟨hI1, km⟩ := xc_B (xl_fit b) hJ.1 hX
  have hM1 := km M hM
  obtain ⟨z, rfl, hz⟩ := iv_gRi hr
  refine ⟨z, rfl, iv_sh_ok (iv_iW_inv hI1), g_run_mono (iv_mrun hM1 g2 (g4 h1)) (fun r2 h2 hp2 => ?_)⟩
  obtain ⟨v2, M2, ⟨⟨lo2, hi2, n2, rfl, hn2⟩, hu, hInv2⟩, hr2, hM2⟩ := hp2
  obtain ⟨z2, rfl, hz2⟩ := iv_gRi hr2
  refine ⟨⟨z2, rfl, fun _ => Int32.toInt_inj.mp (by rw [hz, hz2]; exact g0 _ _ hn hn2)⟩, W, b, iv_join hJ hM hX hM2 hInv2 (fun x => hu 104 x rfl) (fun x => hu 105 x rfl) (lm_R_k (fun q j hC => ?_) (iv_xj hJ hM))⟩
  unfold xj
  by_cases hq : q < 60
  · rw [if_pos hq, if_pos hq]
    exact hk q j hC hq
  · rw [if_neg hq, if_neg hq]
    refine hu q j ?_
    unfold lm_C at hC
    unfold xk_B
    simp only [Bool.or_eq_true, Bool.and_eq_true, Nat.beq_eq, decide_eq_true_eq]
    omega
/-- one that was seen doesn't stand, if it was set to a month -/
def sk_no (mk sm sw : Int → Int) (m k : Int) : Prop := ¬ mk ((m + sm k) % 223) = sw k
/-- those that don't stand (bits) -/
noncomputable def sk_b (mk sm sw : Int → Int) (m : Int) : Nat → Int
  | 0 => 0
  | k + 1 => @ite _ (sk_no mk sm sw m (k : Int)) (Classical.propDecidable _) (xa_ib 4 (sk_b mk sm sw m k) (xa_ib 6 1 (k : Int))) (sk_b mk sm sw m k)
theorem sk_b1 {mk sm sw : Int → Int} {m : Int} {k : Nat} (h : sk_no mk sm sw m (k : Int)) : sk_b mk sm sw m (k + 1) = xa_ib 4 (sk_b mk sm sw m k) (xa_ib 6 1 (k : Int)) := by
  rw [sk_b]
  exact if_pos h
theorem sk_b0 {mk sm sw : Int → Int} {m : Int} {k : Nat} (h : ¬ sk_no mk sm sw m (k : Int)) : sk_b mk sm sw m (k + 1) = sk_b mk sm sw m k := by
  rw [sk_b]
  exact if_neg h
/-- both hold the same -/
def sk_eq (mk sm sw mk' sm' sw' : Int → Int) : Prop := (∀ i, 0 ≤ i → i < 223 → mk i = mk' i) ∧ (∀ i, 0 ≤ i → i < 20 → sm i = sm' i) ∧ ∀ i, 0 ≤ i → i < 20 → sw i = sw' i
theorem sk_b_e {mk sm sw mk' sm' sw' : Int → Int} (e : sk_eq mk sm sw mk' sm' sw') {m : Int} : ∀ n : Nat, n ≤ 20 → sk_b mk sm sw m n = sk_b mk' sm' sw' m n := by
  intro n
  induction n with
  | zero => intro _; rfl
  | succ k ih =>
    intro hk
    have hn : sk_no mk sm sw m (k : Int) ↔ sk_no mk' sm' sw' m (k : Int) := by
      unfold sk_no
      rw [e.2.1 k (by omega) (by omega), e.2.2 k (by omega) (by omega), e.1 _ (Int.emod_nonneg _ (by decide)) (Int.emod_lt_of_pos _ (by decide))]
    by_cases h : sk_no mk sm sw m (k : Int)
    · rw [sk_b1 h, sk_b1 (hn.mp h), ih (by omega)]
    · rw [sk_b0 h, sk_b0 (fun h' => h (hn.mpr h')), ih (by omega)]
theorem sk_b_r {mk sm sw : Int → Int} {m : Int} : ∀ n : Nat, -2147483648 ≤ sk_b mk sm sw m n ∧ sk_b mk sm sw m n ≤ 2147483647 := by
  intro n
  induction n with
  | zero => exact ⟨by show (-2147483648 : Int) ≤ 0; decide, by show (0 : Int) ≤ 2147483647; decide⟩
  | succ k ih =>
    by_cases h : sk_no mk sm sw m (k : Int)
    · rw [sk_b1 h]
      generalize sk_b mk sm sw m k = x
      generalize xa_ib 6 1 (k : Int) = y
      have h1 := Int32.le_toInt (s_fib 4 (Int32.ofInt x) (Int32.ofInt y))
      have h2 := Int32.toInt_lt (s_fib 4 (Int32.ofInt x) (Int32.ofInt y))
      unfold xa_ib
      exact ⟨h1, by omega⟩
    · rw [sk_b0 h]
      exact ih
theorem xa_or0 {a : Int} (h1 : -2147483648 ≤ a) (h2 : a ≤ 2147483647) : xa_ib 4 a 0 = a := by
  show (Int32.ofInt a ||| Int32.ofInt 0).toInt = a
  rw [show Int32.ofInt 0 = 0 from rfl, Int32.or_zero]
  exact Int32.toInt_ofInt_of_le (by omega) (by omega)
/-- months in which all stand -/
noncomputable def sk_n (mk sm sw : Int → Int) (n : Nat) : Nat → Int
  | 0 => 0
  | m + 1 => if sk_b mk sm sw (m : Int) n = 0 then sk_n mk sm sw n m + 1 else sk_n mk sm sw n m
theorem sk_n_e {mk sm sw mk' sm' sw' : Int → Int} (e : sk_eq mk sm sw mk' sm' sw') {n : Nat} (hn : n ≤ 20) : ∀ m : Nat, sk_n mk sm sw n m = sk_n mk' sm' sw' n m := by
  intro m
  induction m with
  | zero => rfl
  | succ m ih => rw [sk_n, sk_n, sk_b_e e n hn, ih]
theorem sk_n1 {mk sm sw : Int → Int} {n m : Nat} (h : sk_b mk sm sw (m : Int) n = 0) : sk_n mk sm sw n (m + 1) = sk_n mk sm sw n m + 1 := by
  rw [sk_n]
  exact if_pos h
theorem sk_n0 {mk sm sw : Int → Int} {n m : Nat} (h : ¬ sk_b mk sm sw (m : Int) n = 0) : sk_n mk sm sw n (m + 1) = sk_n mk sm sw n m := by
  rw [sk_n]
  exact if_neg h
/-- the month (of the first m) in which the fewest don't stand -/
noncomputable def sk_w (mk sm sw : Int → Int) (n : Nat) : Nat → Int
  | 0 => 0
  | m + 1 => if m = 0 then 0 else if xa_bc (sk_b mk sm sw (m : Int) n) < xa_bc (sk_b mk sm sw (sk_w mk sm sw n m) n) then (m : Int) else sk_w mk sm sw n m
theorem sk_w_e {mk sm sw mk' sm' sw' : Int → Int} (e : sk_eq mk sm sw mk' sm' sw') {n : Nat} (hn : n ≤ 20) : ∀ m : Nat, sk_w mk sm sw n m = sk_w mk' sm' sw' n m := by
  intro m
  induction m with
  | zero => rfl
  | succ m ih => rw [sk_w, sk_w, ih, sk_b_e e n hn, sk_b_e e n hn]
theorem sk_w1 {mk sm sw : Int → Int} {n m : Nat} (h0 : ¬ m = 0) (h : xa_bc (sk_b mk sm sw (m : Int) n) < xa_bc (sk_b mk sm sw (sk_w mk sm sw n m) n)) : sk_w mk sm sw n (m + 1) = m := by
  rw [sk_w, if_neg h0]
  exact if_pos h
theorem sk_w0 {mk sm sw : Int → Int} {n m : Nat} (h0 : ¬ m = 0) (h : ¬ xa_bc (sk_b mk sm sw (m : Int) n) < xa_bc (sk_b mk sm sw (sk_w mk sm sw n m) n)) : sk_w mk sm sw n (m + 1) = sk_w mk sm sw n m := by
  rw [sk_w, if_neg h0]
  exact if_neg h
theorem cx_23_40 {b : Bool} {A : Nat → Nat} {h0 : g_H} {d : Nat} {M : xa_M} {post : Option xa_V → xa_M → Prop} {l1 u1 : Int} {i : Int} (h1 : 0 ≤ i ∧ i < 20) (k1 : post (some (0, 0, (-2147483648), 2147483647, M 40 i)) M) : xa_C (xl_I b) A h0 (d + 1) 23 [(2, 40, 0, 0, 0), (0, 0, l1, u1, i)] M post := by
  refine xa_C_arg [(2, 40, 0, 0, 0), (0, 0, (-2147483648), 2147483647, i)] (xa_svR (xa_svI (fun _ _ _ _ => by omega) xa_sv0)) ?_
  refine xa_meth (Q0 := (2, 1, false, 0, 0, 11)) (by decide +kernel) ⟨rfl, rfl⟩ (full := s_c_23) rfl rfl ?_
  intro hM hv Q hgo
  refine hgo.1 15 [] 0 _ _ _ ?_
  refine And.intro ?_ ?_
  · intro (c1 : i < 0)
    show post (some (0, 0, 0, 0, 0)) M
    exact absurd h1 (by omega)
  · intro (c1 : 0 ≤ i)
    refine And.intro ?_ ?_
    · intro (c2 : 20 ≤ i)
      show post (some (0, 0, 0, 0, 0)) M
      exact absurd h1 (by omega)
    · intro (c2 : i < 20)
      refine And.intro (show 0 ≤ i ∧ i < 20 by omega) ?_
      show post (some (0, 0, (-2147483648), 2147483647, M 40 i)) M
      exact k1
theorem cx_187w {b : Bool} {A : Nat → Nat} {h0 : g_H} {d : Nat} {M : xa_M} {post : Option xa_V → xa_M → Prop} {l1 u1 v : Int} (h1 : 0 ≤ v ∧ v ≤ 222) (hn : 0 ≤ M 38 5 ∧ M 38 5 ≤ 20) (hs : ∀ k, 0 ≤ k → k < 20 → 0 ≤ M 40 k ∧ M 40 k ≤ 9999) (hw : ∀ k, 0 ≤ k → k < 20 → 0 ≤ M 41 k ∧ M 41 k ≤ 1) (hm : ∀ k, 0 ≤ k → k < 223 → 0 ≤ M 39 k ∧ M 39 k ≤ 1) (k : post (some (0, 0, (-2147483648), 2147483647, sk_b (M 39) (M 40) (M 41) v (M 38 5).toNat)) M) : xa_C (xl_I b) A h0 (d + 2) 187 [(2, 38, 0, 0, 0), (0, 0, l1, u1, v)] M post := by
  refine xa_C_arg [(2, 38, 0, 0, 0), (0, 0, 0, 222, v)] (xa_svR (xa_svI (fun _ _ _ _ => by omega) xa_sv0)) ?_
  refine xa_meth (Q0 := (6, 1, false, 0, 0, 2)) (by decide +kernel) ⟨rfl, rfl⟩ (full := s_c_187) rfl rfl ?_
  intro hM hv Q hgo
  have loop : ∀ (n : Nat) (i bb : Int), 0 ≤ i → i ≤ M 38 5 → bb = sk_b (M 39) (M 40) (M 41) v i.toNat → 20 - i < (n : Int) → Q 4 [(3, (0, 0, 0, 20, i)), (2, (0, 0, (-2147483648), 2147483647, bb)), (0, (2, 38, 0, 0, 0)), (1, (0, 0, 0, 222, v))] [] M := by
    intro n
    induction n with
    | zero => intro i bb i0 i1 hb hms; omega
    | succ n ih =>
      intro i bb i0 i1 hb hms
      have ei : ((i.toNat : Nat) : Int) = i := Int.toNat_of_nonneg i0
      have hr := sk_b_r (mk := M 39) (sm := M 40) (sw := M 41) (m := v) i.toNat
      rw [← hb] at hr
      have hs' := hs i i0
      have hw' := hw i i0
      have et : i < 20 → (xa_w32 (v + (M 40 i))).tmod 223 = (v + M 40 i) % 223 := fun h => by
        have := hs' h
        rw [xa_w32_id (by omega) (by omega), Int.tmod_eq_emod_of_nonneg (by omega)]
      have e0 : 0 ≤ (v + M 40 i) % 223 := Int.emod_nonneg _ (by decide)
      have e1 : (v + M 40 i) % 223 < 223 := Int.emod_lt_of_pos _ (by decide)
      have hm' := hm _ e0 e1
      refine hgo.1 52 [4] 4 _ _ _ ?_
      refine And.intro ?_ ?_
      · intro (c1 : (M 38 5) ≤ i)
        show post (some (0, 0, (-2147483648), 2147483647, bb)) M
        rw [hb, show i = M 38 5 by omega]
        exact k
      · intro (c1 : i < (M 38 5))
        refine And.intro ?_ ?_
        · intro (c2 : 20 ≤ i)
          show post (some (0, 0, (-2147483648), 2147483647, bb)) M
          rw [hb, show i = M 38 5 by omega]
          exact k
        · intro (c2 : i < 20)
          show xa_C (xl_I b) A h0 _ 23 [(2, 40, 0, 0, 0), (0, 0, 0, 20, i)] M _
          refine cx_23_40 (show 0 ≤ i ∧ i < 20 by omega) ?_
          refine And.intro ?_ ?_
          · intro (c3 : ((xa_w32 (v + (M 40 i))).tmod 223) < 0)
            refine And.intro (show 0 ≤ i ∧ i < 20 by omega) ?_
            refine And.intro ?_ ?_
            · intro (c4 : ¬ 0 = (M 41 i))
              show Q 4 [(3, (0, 0, 1, 21, i + 1)), (2, (0, 0, (-2147483648), 2147483647, xa_ib 4 bb (xa_ib 6 1 i))), (5, (0, 0, 0, 0, 0)), (4, (0, 0, (-2147483648), 2147483647, (xa_w32 (v + (M 40 i))).tmod 223)), (0, (2, 38, 0, 0, 0)), (1, (0, 0, 0, 222, v))] [] M
              rw [et (by omega)] at c3
              exact absurd e0 (by omega)
            · intro (c4 : 0 = (M 41 i))
              show Q 4 [(3, (0, 0, 1, 21, i + 1)), (2, (0, 0, (-2147483648), 2147483647, xa_ib 4 bb 0)), (5, (0, 0, 0, 0, 0)), (4, (0, 0, (-2147483648), 2147483647, (xa_w32 (v + (M 40 i))).tmod 223)), (0, (2, 38, 0, 0, 0)), (1, (0, 0, 0, 222, v))] [] M
              rw [et (by omega)] at c3
              exact absurd e0 (by omega)
          · intro (c3 : 0 ≤ ((xa_w32 (v + (M 40 i))).tmod 223))
            refine And.intro ?_ ?_
            · intro (c5 : 223 ≤ ((xa_w32 (v + (M 40 i))).tmod 223))
              refine And.intro (show 0 ≤ i ∧ i < 20 by omega) ?_
              refine And.intro ?_ ?_
              · intro (c6 : ¬ 0 = (M 41 i))
                show Q 4 [(3, (0, 0, 1, 21, i + 1)), (2, (0, 0, (-2147483648), 2147483647, xa_ib 4 bb (xa_ib 6 1 i))), (5, (0, 0, 0, 0, 0)), (4, (0, 0, (-2147483648), 2147483647, (xa_w32 (v + (M 40 i))).tmod 223)), (0, (2, 38, 0, 0, 0)), (1, (0, 0, 0, 222, v))] [] M
                rw [et (by omega)] at c3 c5
                exact absurd e1 (by omega)
              · intro (c6 : 0 = (M 41 i))
                show Q 4 [(3, (0, 0, 1, 21, i + 1)), (2, (0, 0, (-2147483648), 2147483647, xa_ib 4 bb 0)), (5, (0, 0, 0, 0, 0)), (4, (0, 0, (-2147483648), 2147483647, (xa_w32 (v + (M 40 i))).tmod 223)), (0, (2, 38, 0, 0, 0)), (1, (0, 0, 0, 222, v))] [] M
                rw [et (by omega)] at c3 c5
                exact absurd e1 (by omega)
            · intro (c5 : ((xa_w32 (v + (M 40 i))).tmod 223) < 223)
              refine And.intro (show 0 ≤ ((xa_w32 (v + (M 40 i))).tmod 223) ∧ ((xa_w32 (v + (M 40 i))).tmod 223) < 223 by omega) ?_
              refine And.intro ?_ ?_
              · intro (c7 : (M 39 ((xa_w32 (v + (M 40 i))).tmod 223)) = 0)
                refine And.intro (show 0 ≤ i ∧ i < 20 by omega) ?_
                refine And.intro ?_ ?_
                · intro (c8 : ¬ 0 = (M 41 i))
                  show Q 4 [(3, (0, 0, 1, 21, i + 1)), (2, (0, 0, (-2147483648), 2147483647, xa_ib 4 bb (xa_ib 6 1 i))), (5, (0, 0, 0, 0, 0)), (4, (0, 0, (-2147483648), 2147483647, (xa_w32 (v + (M 40 i))).tmod 223)), (0, (2, 38, 0, 0, 0)), (1, (0, 0, 0, 222, v))] [] M
                  rw [et (by omega)] at c3 c5 c7
                  have eb : xa_ib 4 bb (xa_ib 6 1 i) = sk_b (M 39) (M 40) (M 41) v (i + 1).toNat := by
                    rw [show (i + 1).toNat = i.toNat + 1 by omega, sk_b1 (show sk_no (M 39) (M 40) (M 41) v ((i.toNat : Nat) : Int) by unfold sk_no; rw [ei]; omega), ← hb, ei]
                  refine hgo.2.1 4 _ [(3, (0, 0, 0, 20, i + 1)), (2, (0, 0, (-2147483648), 2147483647, xa_ib 4 bb (xa_ib 6 1 i))), (0, (2, 38, 0, 0, 0)), (1, (0, 0, 0, 222, v))] _ _ (xa_subI rfl rfl (fun _ _ _ _ => by omega) (xa_subI rfl rfl (fun _ _ _ _ => by omega) (xa_subR rfl (xa_subI rfl rfl (fun _ _ _ _ => by omega) (xa_sub0))))) ?_
                  exact ih (i + 1) _ (by omega) (by omega) eb (by omega)
                · intro (c8 : 0 = (M 41 i))
                  show Q 4 [(3, (0, 0, 1, 21, i + 1)), (2, (0, 0, (-2147483648), 2147483647, xa_ib 4 bb 0)), (5, (0, 0, 0, 0, 0)), (4, (0, 0, (-2147483648), 2147483647, (xa_w32 (v + (M 40 i))).tmod 223)), (0, (2, 38, 0, 0, 0)), (1, (0, 0, 0, 222, v))] [] M
                  rw [et (by omega)] at c3 c5 c7
                  have eb : xa_ib 4 bb 0 = sk_b (M 39) (M 40) (M 41) v (i + 1).toNat := by
                    rw [show (i + 1).toNat = i.toNat + 1 by omega, sk_b0 (show ¬ sk_no (M 39) (M 40) (M 41) v ((i.toNat : Nat) : Int) by unfold sk_no; rw [ei]; omega), ← hb, xa_or0 hr.1 hr.2]
                  refine hgo.2.1 4 _ [(3, (0, 0, 0, 20, i + 1)), (2, (0, 0, (-2147483648), 2147483647, xa_ib 4 bb 0)), (0, (2, 38, 0, 0, 0)), (1, (0, 0, 0, 222, v))] _ _ (xa_subI rfl rfl (fun _ _ _ _ => by omega) (xa_subI rfl rfl (fun _ _ _ _ => by omega) (xa_subR rfl (xa_subI rfl rfl (fun _ _ _ _ => by omega) (xa_sub0))))) ?_
                  exact ih (i + 1) _ (by omega) (by omega) eb (by omega)
              · intro (c7 : ¬ (M 39 ((xa_w32 (v + (M 40 i))).tmod 223)) = 0)
                refine And.intro (show 0 ≤ i ∧ i < 20 by omega) ?_
                refine And.intro ?_ ?_
                · intro (c9 : ¬ 1 = (M 41 i))
                  show Q 4 [(3, (0, 0, 1, 21, i + 1)), (2, (0, 0, (-2147483648), 2147483647, xa_ib 4 bb (xa_ib 6 1 i))), (5, (0, 0, 1, 1, 1)), (4, (0, 0, (-2147483648), 2147483647, (xa_w32 (v + (M 40 i))).tmod 223)), (0, (2, 38, 0, 0, 0)), (1, (0, 0, 0, 222, v))] [] M
                  rw [et (by omega)] at c3 c5 c7
                  have eb : xa_ib 4 bb (xa_ib 6 1 i) = sk_b (M 39) (M 40) (M 41) v (i + 1).toNat := by
                    rw [show (i + 1).toNat = i.toNat + 1 by omega, sk_b1 (show sk_no (M 39) (M 40) (M 41) v ((i.toNat : Nat) : Int) by unfold sk_no; rw [ei]; omega), ← hb, ei]
                  refine hgo.2.1 4 _ [(3, (0, 0, 0, 20, i + 1)), (2, (0, 0, (-2147483648), 2147483647, xa_ib 4 bb (xa_ib 6 1 i))), (0, (2, 38, 0, 0, 0)), (1, (0, 0, 0, 222, v))] _ _ (xa_subI rfl rfl (fun _ _ _ _ => by omega) (xa_subI rfl rfl (fun _ _ _ _ => by omega) (xa_subR rfl (xa_subI rfl rfl (fun _ _ _ _ => by omega) (xa_sub0))))) ?_
                  exact ih (i + 1) _ (by omega) (by omega) eb (by omega)
                · intro (c9 : 1 = (M 41 i))
                  show Q 4 [(3, (0, 0, 1, 21, i + 1)), (2, (0, 0, (-2147483648), 2147483647, xa_ib 4 bb 0)), (5, (0, 0, 1, 1, 1)), (4, (0, 0, (-2147483648), 2147483647, (xa_w32 (v + (M 40 i))).tmod 223)), (0, (2, 38, 0, 0, 0)), (1, (0, 0, 0, 222, v))] [] M
                  rw [et (by omega)] at c3 c5 c7
                  have eb : xa_ib 4 bb 0 = sk_b (M 39) (M 40) (M 41) v (i + 1).toNat := by
                    rw [show (i + 1).toNat = i.toNat + 1 by omega, sk_b0 (show ¬ sk_no (M 39) (M 40) (M 41) v ((i.toNat : Nat) : Int) by unfold sk_no; rw [ei]; omega), ← hb, xa_or0 hr.1 hr.2]
                  refine hgo.2.1 4 _ [(3, (0, 0, 0, 20, i + 1)), (2, (0, 0, (-2147483648), 2147483647, xa_ib 4 bb 0)), (0, (2, 38, 0, 0, 0)), (1, (0, 0, 0, 222, v))] _ _ (xa_subI rfl rfl (fun _ _ _ _ => by omega) (xa_subI rfl rfl (fun _ _ _ _ => by omega) (xa_subR rfl (xa_subI rfl rfl (fun _ _ _ _ => by omega) (xa_sub0))))) ?_
                  exact ih (i + 1) _ (by omega) (by omega) eb (by omega)
  refine hgo.1 9 [4] 0 _ _ _ ?_
  show Q 4 [(3, (0, 0, 0, 0, 0)), (2, (0, 0, 0, 0, 0)), (0, (2, 38, 0, 0, 0)), (1, (0, 0, 0, 222, v))] [] M
  refine hgo.2.1 4 _ [(3, (0, 0, 0, 20, 0)), (2, (0, 0, (-2147483648), 2147483647, 0)), (0, (2, 38, 0, 0, 0)), (1, (0, 0, 0, 222, v))] _ _ (xa_subI rfl rfl (fun _ _ _ _ => by omega) (xa_subI rfl rfl (fun _ _ _ _ => by omega) (xa_subR rfl (xa_subI rfl rfl (fun _ _ _ _ => by omega) (xa_sub0))))) ?_
  exact loop 21 0 0 (by omega) (by omega) rfl (by omega)
theorem cx_48_49 {b : Bool} {A : Nat → Nat} {h0 : g_H} {d : Nat} {M : xa_M} {post : Option xa_V → xa_M → Prop} {l1 u1 l2 u2 : Int} {i v : Int} (h1 : 0 ≤ i ∧ i < 16) (k1 : post none (xa_up M 49 i v)) : xa_C (xl_I b) A h0 (d + 1) 48 [(2, 49, 0, 0, 0), (0, 0, l1, u1, i), (1, 0, l2, u2, v)] M post := by
  refine xa_C_arg [(2, 49, 0, 0, 0), (0, 0, (-2147483648), 2147483647, i), (1, 0, (-9223372036854775808), 9223372036854775807, v)] (xa_svR (xa_svI (fun _ _ _ _ => by omega) (xa_svL (fun _ _ _ _ => by omega) xa_sv0))) ?_
  refine xa_meth (Q0 := (4, 0, false, 0, 0, 11)) (by decide +kernel) ⟨rfl, rfl⟩ (full := s_c_48) rfl rfl ?_
  intro hM hv Q hgo
  refine hgo.1 15 [] 0 _ _ _ ?_
  refine And.intro ?_ ?_
  · intro (c1 : i < 0)
    show post none M
    exact absurd h1 (by omega)
  · intro (c1 : 0 ≤ i)
    refine And.intro ?_ ?_
    · intro (c2 : 16 ≤ i)
      show post none M
      exact absurd h1 (by omega)
    · intro (c2 : i < 16)
      refine And.intro (show 0 ≤ i ∧ i < 16 by omega) ?_
      show post none (xa_up M 49 i v)
      exact k1
theorem cx_60_48 {b : Bool} {A : Nat → Nat} {h0 : g_H} {d : Nat} {M : xa_M} {post : Option xa_V → xa_M → Prop} {l1 u1 : Int} {x1 : Int} (h1 : 0 ≤ (M 48 1)) (k1 : (16 ≤ (M 48 1)) → post none M) (k2 : ((M 48 1) < 16) → post none (xa_up (xa_up M 49 (M 48 1) x1) 48 1 (xa_w32 ((M 48 1) + 1)))) : xa_C (xl_I b) A h0 (d + 2) 60 [(2, 48, 0, 0, 0), (1, 0, l1, u1, x1)] M post := by
  refine xa_C_arg [(2, 48, 0, 0, 0), (1, 0, (-9223372036854775808), 9223372036854775807, x1)] (xa_svR (xa_svL (fun _ _ _ _ => by omega) (xa_sv0))) ?_
  refine xa_meth (Q0 := (3, 0, false, 0, 0, 6)) (by decide +kernel) ⟨rfl, rfl⟩ (full := s_c_60) rfl rfl ?_
  intro hM hv Q hgo
  refine hgo.1 21 [] 0 _ _ _ ?_
  refine And.intro ?_ ?_
  · intro (c1 : 16 ≤ (M 48 1))
    show post none M
    exact k1 c1
  · intro (c1 : (M 48 1) < 16)
    show xa_C (xl_I b) A h0 _ 48 [(2, 49, 0, 0, 0), (0, 0, (-2147483648), 2147483647, M 48 1), (1, 0, (-9223372036854775808), 9223372036854775807, x1)] M _
    refine cx_48_49 (show 0 ≤ (M 48 1) ∧ (M 48 1) < 16 by omega) ?_
    show post none (xa_up (xa_up M 49 (M 48 1) x1) 48 1 (xa_w32 ((M 48 1) + 1)))
    exact k2 c1
theorem cx_186w {b : Bool} {A : Nat → Nat} {h0 : g_H} {d : Nat} {M : xa_M} {post : Option xa_V → xa_M → Prop} (hn : 0 ≤ M 38 5 ∧ M 38 5 ≤ 20) (hs : ∀ k, 0 ≤ k → k < 20 → 0 ≤ M 40 k ∧ M 40 k ≤ 9999) (hw : ∀ k, 0 ≤ k → k < 20 → 0 ≤ M 41 k ∧ M 41 k ≤ 1) (hm : ∀ k, 0 ≤ k → k < 223 → 0 ≤ M 39 k ∧ M 39 k ≤ 1) (hz : 0 ≤ M 48 1 ∧ M 48 1 ≤ 16) (k : ∀ (r : Int) (M1 : xa_M), r = sk_n (M 39) (M 40) (M 41) (M 38 5).toNat 223 → (∀ q j, ¬ q = 48 → ¬ q = 49 → M1 q j = M q j) → post (some (0, 0, 0, 223, r)) M1) : xa_C (xl_I b) A h0 (d + 3) 186 [(2, 38, 0, 0, 0), (2, 48, 0, 0, 0)] M post := by
  refine xa_meth (Q0 := (4, 1, false, 0, 0, 2)) (by decide +kernel) ⟨rfl, rfl⟩ (full := s_c_186) rfl rfl ?_
  intro hM hv Q hgo
  have loop : ∀ (n : Nat) (i n2 : Int) (M1 : xa_M), 0 ≤ i → i ≤ 223 → 0 ≤ n2 ∧ n2 ≤ i → (∀ q j, ¬ q = 48 → ¬ q = 49 → M1 q j = M q j) → 0 ≤ M1 48 1 ∧ M1 48 1 ≤ 16 → n2 = sk_n (M 39) (M 40) (M 41) (M 38 5).toNat i.toNat → 223 - i < (n : Int) → Q 4 [(3, (0, 0, 0, 223, i)), (2, (0, 0, 0, 223, n2)), (0, (2, 38, 0, 0, 0)), (1, (2, 48, 0, 0, 0))] [] M1 := by
    intro n
    induction n with
    | zero => intro i n2 M1 i0 i1 i2 hk hz hb hms; omega
    | succ n ih =>
      intro i n2 M1 i0 i1 i2 hk hz hb hms
      have ei : ((i.toNat : Nat) : Int) = i := Int.toNat_of_nonneg i0
      have f39 : M1 39 = M 39 := funext (fun j => hk 39 j (by decide) (by decide))
      have f40 : M1 40 = M 40 := funext (fun j => hk 40 j (by decide) (by decide))
      have f41 : M1 41 = M 41 := funext (fun j => hk 41 j (by decide) (by decide))
      have f38 : M1 38 = M 38 := funext (fun j => hk 38 j (by decide) (by decide))
      have hn1 : 0 ≤ M1 38 5 ∧ M1 38 5 ≤ 20 := by rw [f38]; exact hn
      have hs1 : ∀ k, 0 ≤ k → k < 20 → 0 ≤ M1 40 k ∧ M1 40 k ≤ 9999 := by rw [f40]; exact hs
      have hw1 : ∀ k, 0 ≤ k → k < 20 → 0 ≤ M1 41 k ∧ M1 41 k ≤ 1 := by rw [f41]; exact hw
      have hm1 : ∀ k, 0 ≤ k → k < 223 → 0 ≤ M1 39 k ∧ M1 39 k ≤ 1 := by rw [f39]; exact hm
      refine hgo.1 22 [4] 4 _ _ _ ?_
      refine And.intro ?_ ?_
      · intro (c1 : 223 ≤ i)
        show post (some (0, 0, 0, 223, n2)) M1
        rw [hb, show i = 223 by omega]
        exact k _ _ rfl hk
      · intro (c1 : i < 223)
        show xa_C (xl_I b) A h0 _ 187 [(2, 38, 0, 0, 0), (0, 0, 0, 223, i)] M1 _
        refine cx_187w (show 0 ≤ i ∧ i ≤ 222 by omega) hn1 hs1 hw1 hm1 ?_
        refine And.intro ?_ ?_
        · intro (c2 : ¬ (sk_b (M1 39) (M1 40) (M1 41) i (M1 38 5).toNat) = 0)
          show Q 4 [(3, (0, 0, 1, 224, i + 1)), (2, (0, 0, 0, 223, n2)), (0, (2, 38, 0, 0, 0)), (1, (2, 48, 0, 0, 0))] [] M1
          rw [f39, f40, f41, f38, ← ei] at c2
          have en : n2 = sk_n (M 39) (M 40) (M 41) (M 38 5).toNat (i + 1).toNat := by
            rw [show (i + 1).toNat = i.toNat + 1 by omega, sk_n0 c2, ← hb]
          refine hgo.2.1 4 _ [(3, (0, 0, 0, 223, i + 1)), (2, (0, 0, 0, 223, n2)), (0, (2, 38, 0, 0, 0)), (1, (2, 48, 0, 0, 0))] _ _ (xa_subI rfl rfl (fun _ _ _ _ => by omega) (xa_subI rfl rfl (fun _ _ _ _ => by omega) (xa_subR rfl (xa_subR rfl (xa_sub0))))) ?_
          exact ih (i + 1) _ _ (by omega) (by omega) (by omega) (fun q j h1 h2 => by
            first
              | exact hk q j h1 h2
              | exact (xa_up_ne (fun e => h1 e.1)).trans ((xa_up_ne (fun e => h2 e.1)).trans (hk q j h1 h2))) (by first | exact hz | (simp [xa_up]; rw [xa_w32_id (by omega) (by omega)]; omega)) en (by omega)
        · intro (c2 : (sk_b (M1 39) (M1 40) (M1 41) i (M1 38 5).toNat) = 0)
          refine And.intro ?_ ?_
          · intro (c3 : 10 ≤ n2)
            show Q 4 [(3, (0, 0, 1, 224, i + 1)), (2, (0, 0, 1, 224, n2 + 1)), (0, (2, 38, 0, 0, 0)), (1, (2, 48, 0, 0, 0))] [] M1
            rw [f39, f40, f41, f38, ← ei] at c2
            have en : n2 + 1 = sk_n (M 39) (M 40) (M 41) (M 38 5).toNat (i + 1).toNat := by
              rw [show (i + 1).toNat = i.toNat + 1 by omega, sk_n1 c2, ← hb]
            refine hgo.2.1 4 _ [(3, (0, 0, 0, 223, i + 1)), (2, (0, 0, 0, 223, n2 + 1)), (0, (2, 38, 0, 0, 0)), (1, (2, 48, 0, 0, 0))] _ _ (xa_subI rfl rfl (fun _ _ _ _ => by omega) (xa_subI rfl rfl (fun _ _ _ _ => by omega) (xa_subR rfl (xa_subR rfl (xa_sub0))))) ?_
            exact ih (i + 1) _ _ (by omega) (by omega) (by omega) (fun q j h1 h2 => by
              first
                | exact hk q j h1 h2
                | exact (xa_up_ne (fun e => h1 e.1)).trans ((xa_up_ne (fun e => h2 e.1)).trans (hk q j h1 h2))) (by first | exact hz | (simp [xa_up]; rw [xa_w32_id (by omega) (by omega)]; omega)) en (by omega)
          · intro (c3 : n2 < 10)
            show xa_C (xl_I b) A h0 _ 60 [(2, 48, 0, 0, 0), (1, 0, 0, 223, i)] M1 _
            refine cx_60_48 (show 0 ≤ (M1 48 1) by omega) ?_ ?_
            · intro (i4 : 16 ≤ (M1 48 1))
              show Q 4 [(3, (0, 0, 1, 224, i + 1)), (2, (0, 0, 1, 224, n2 + 1)), (0, (2, 38, 0, 0, 0)), (1, (2, 48, 0, 0, 0))] [] M1
              rw [f39, f40, f41, f38, ← ei] at c2
              have en : n2 + 1 = sk_n (M 39) (M 40) (M 41) (M 38 5).toNat (i + 1).toNat := by
                rw [show (i + 1).toNat = i.toNat + 1 by omega, sk_n1 c2, ← hb]
              refine hgo.2.1 4 _ [(3, (0, 0, 0, 223, i + 1)), (2, (0, 0, 0, 223, n2 + 1)), (0, (2, 38, 0, 0, 0)), (1, (2, 48, 0, 0, 0))] _ _ (xa_subI rfl rfl (fun _ _ _ _ => by omega) (xa_subI rfl rfl (fun _ _ _ _ => by omega) (xa_subR rfl (xa_subR rfl (xa_sub0))))) ?_
              exact ih (i + 1) _ _ (by omega) (by omega) (by omega) (fun q j h1 h2 => by
                first
                  | exact hk q j h1 h2
                  | exact (xa_up_ne (fun e => h1 e.1)).trans ((xa_up_ne (fun e => h2 e.1)).trans (hk q j h1 h2))) (by first | exact hz | (simp [xa_up]; rw [xa_w32_id (by omega) (by omega)]; omega)) en (by omega)
            · intro (i5 : (M1 48 1) < 16)
              show Q 4 [(3, (0, 0, 1, 224, i + 1)), (2, (0, 0, 1, 224, n2 + 1)), (0, (2, 38, 0, 0, 0)), (1, (2, 48, 0, 0, 0))] [] (xa_up (xa_up M1 49 (M1 48 1) i) 48 1 (xa_w32 ((M1 48 1) + 1)))
              rw [f39, f40, f41, f38, ← ei] at c2
              have en : n2 + 1 = sk_n (M 39) (M 40) (M 41) (M 38 5).toNat (i + 1).toNat := by
                rw [show (i + 1).toNat = i.toNat + 1 by omega, sk_n1 c2, ← hb]
              refine hgo.2.1 4 _ [(3, (0, 0, 0, 223, i + 1)), (2, (0, 0, 0, 223, n2 + 1)), (0, (2, 38, 0, 0, 0)), (1, (2, 48, 0, 0, 0))] _ _ (xa_subI rfl rfl (fun _ _ _ _ => by omega) (xa_subI rfl rfl (fun _ _ _ _ => by omega) (xa_subR rfl (xa_subR rfl (xa_sub0))))) ?_
              exact ih (i + 1) _ _ (by omega) (by omega) (by omega) (fun q j h1 h2 => by
                first
                  | exact hk q j h1 h2
                  | exact (xa_up_ne (fun e => h1 e.1)).trans ((xa_up_ne (fun e => h2 e.1)).trans (hk q j h1 h2))) (by first | exact hz | (simp [xa_up]; rw [xa_w32_id (by omega) (by omega)]; omega)) en (by omega)
  refine hgo.1 9 [4] 0 _ _ _ ?_
  show Q 4 [(3, (0, 0, 0, 0, 0)), (2, (0, 0, 0, 0, 0)), (0, (2, 38, 0, 0, 0)), (1, (2, 48, 0, 0, 0))] [] M
  refine hgo.2.1 4 _ [(3, (0, 0, 0, 223, 0)), (2, (0, 0, 0, 223, 0)), (0, (2, 38, 0, 0, 0)), (1, (2, 48, 0, 0, 0))] _ _ (xa_subI rfl rfl (fun _ _ _ _ => by omega) (xa_subI rfl rfl (fun _ _ _ _ => by omega) (xa_subR rfl (xa_subR rfl (xa_sub0))))) ?_
  exact loop 224 0 0 M (by omega) (by omega) (by omega) (fun _ _ _ _ => rfl) hz rfl (by omega)
theorem cx_59_48 {b : Bool} {A : Nat → Nat} {h0 : g_H} {d : Nat} {M : xa_M} {post : Option xa_V → xa_M → Prop} (k1 : post none (xa_up M 48 1 0)) : xa_C (xl_I b) A h0 (d + 1) 59 [(2, 48, 0, 0, 0)] M post := by
  refine xa_C_arg [(2, 48, 0, 0, 0)] (xa_svR (xa_sv0)) ?_
  refine xa_meth (Q0 := (1, 0, false, 0, 0, 6)) (by decide +kernel) ⟨rfl, rfl⟩ (full := s_c_59) rfl rfl ?_
  intro hM hv Q hgo
  refine hgo.1 8 [] 0 _ _ _ ?_
  show post none (xa_up M 48 1 0)
  exact k1
theorem cw_185 {b : Bool} {A : Nat → Nat} {h0 : g_H} {d : Nat} {M : xa_M} {post : Option xa_V → xa_M → Prop} (hn : 0 ≤ M 38 5 ∧ M 38 5 ≤ 20) (hs : ∀ k, 0 ≤ k → k < 20 → 0 ≤ M 40 k ∧ M 40 k ≤ 9999) (hw : ∀ k, 0 ≤ k → k < 20 → 0 ≤ M 41 k ∧ M 41 k ≤ 1) (hm : ∀ k, 0 ≤ k → k < 223 → 0 ≤ M 39 k ∧ M 39 k ≤ 1) (k : ∀ (r : Int) (M1 : xa_M), r = sk_n (M 39) (M 40) (M 41) (M 38 5).toNat 223 → (∀ q j, ¬ q = 48 → ¬ q = 49 → M1 q j = M q j) → post (some (0, 0, 0, 223, r)) M1) : xa_C (xl_I b) A h0 (d + 5) 185 [(2, 0, 0, 0, 0)] M post := by
  refine xa_meth (Q0 := (1, 1, false, 0, 0, 11)) (by decide +kernel) ⟨rfl, rfl⟩ (full := s_c_185) rfl rfl ?_
  intro hM hv Q hgo
  refine hgo.1 13 [] 0 _ _ _ ?_
  show xa_C (xl_I b) A h0 _ 59 [(2, 48, 0, 0, 0)] M _
  refine cx_59_48 ?_
  show xa_C (xl_I b) A h0 _ 186 [(2, 38, 0, 0, 0), (2, 48, 0, 0, 0)] (xa_up M 48 1 0) _
  refine cx_186w hn hs hw hm (by simp [xa_up]) ?_
  intro r101 M102 (i1 : r101 = sk_n (M 39) (M 40) (M 41) (M 38 5).toNat 223) (i2 : ∀ q j, ¬ q = 48 → ¬ q = 49 → M102 q j = (xa_up M 48 1 0) q j)
  show post (some (0, 0, 0, 223, r101)) M102
  exact k _ _ i1 (fun q j h1 h2 => (i2 q j h1 h2).trans (xa_up_ne (fun e => h1 e.1)))
theorem ct_againstF {A : Nat → Nat} {h0 : g_H} {d : Nat} {M : xa_M} {post : Option xa_V → xa_M → Prop} {l1 u1 : Int} {a : Int} (ha0 : 0 ≤ a) (ha1 : a ≤ 222) (k : ∀ r : Int, r = sk_b (M 96) (M 97) (M 98) a (M 60 56).toNat → post (some (0, 0, -2147483648, 2147483647, r)) M) : xa_C xm_I A h0 (d + 1) 287 [(2, 60, 0, 0, 0), (0, 0, l1, u1, a)] M post := by
  refine xa_C_arg [(2, 60, 0, 0, 0), (0, 0, 0, 222, a)] (xa_svR (xa_svI (fun _ _ _ _ => by omega) xa_sv0)) ?_
  refine xa_meth (Q0 := (4, 1, false, 0, 0, 12)) (by decide +kernel) ⟨rfl, rfl⟩ (full := s_c_287) rfl rfl ?_
  intro hM hv Q hgo
  have b56 := xm_f56 hM
  have loop0 : ∀ (n : Nat) (x3 x2 : Int), 0 ≤ x3 ∧ x3 ≤ M 60 56 → x2 = sk_b (M 96) (M 97) (M 98) a x3.toNat → 20 - x3 < (n : Int) → Q 4 [(3, (0, 0, 0, 20, x3)), (2, (0, 0, (-2147483648), 2147483647, x2)), (1, (0, 0, 0, 222, a)), (0, (2, 60, 0, 0, 0))] [] M := by
    intro n
    induction n with
    | zero => intro x3 x2 b3 hb hms; omega
    | succ n ih0 =>
      intro x3 x2 b3 hb hms0
      have ei : ((x3.toNat : Nat) : Int) = x3 := Int.toNat_of_nonneg b3.1
      refine hgo.1 33 [4] 4 _ _ _ ?_
      refine And.intro ?_ ?_
      · intro (c1 : (M 60 56) ≤ x3)
        show post (some (0, 0, (-2147483648), 2147483647, x2)) M
        exact k _ (by rw [hb, show x3 = M 60 56 by omega])
      · intro (c1 : x3 < (M 60 56))
        refine And.intro (show 0 ≤ x3 ∧ x3 < 20 by omega) ?_
        refine And.intro (show 0 ≤ x3 ∧ x3 < 20 by omega) ?_
        refine And.intro ?_ ?_
        · intro (c2 : (M 96 ((a + (M 97 x3)) % 223)) = (M 98 x3))
          show Q 4 [(3, (0, 0, 1, 21, x3 + 1)), (2, (0, 0, (-2147483648), 2147483647, x2)), (1, (0, 0, 0, 222, a)), (0, (2, 60, 0, 0, 0))] [] M
          refine hgo.2.1 4 _ [(3, (0, 0, 0, 20, x3 + 1)), (2, (0, 0, (-2147483648), 2147483647, x2)), (1, (0, 0, 0, 222, a)), (0, (2, 60, 0, 0, 0))] _ _ (xa_subI rfl rfl (fun _ _ _ _ => by omega) (xa_subI rfl rfl (fun _ _ _ _ => by omega) (xa_subI rfl rfl (fun _ _ _ _ => by omega) (xa_subR rfl xa_sub0)))) ?_
          exact ih0 (x3 + 1) x2 (by omega) (by rw [show (x3 + 1).toNat = x3.toNat + 1 by omega, sk_b0 (show ¬ sk_no (M 96) (M 97) (M 98) a ((x3.toNat : Nat) : Int) by unfold sk_no; rw [ei]; omega), ← hb]) (by omega)
        · intro (c2 : ¬ (M 96 ((a + (M 97 x3)) % 223)) = (M 98 x3))
          show Q 4 [(3, (0, 0, 1, 21, x3 + 1)), (2, (0, 0, (-2147483648), 2147483647, xa_ib 4 x2 (xa_ib 6 1 x3))), (1, (0, 0, 0, 222, a)), (0, (2, 60, 0, 0, 0))] [] M
          refine hgo.2.1 4 _ [(3, (0, 0, 0, 20, x3 + 1)), (2, (0, 0, (-2147483648), 2147483647, xa_ib 4 x2 (xa_ib 6 1 x3))), (1, (0, 0, 0, 222, a)), (0, (2, 60, 0, 0, 0))] _ _ (xa_subI rfl rfl (fun _ _ _ _ => by omega) (xa_subI rfl rfl (fun _ _ _ _ => by omega) (xa_subI rfl rfl (fun _ _ _ _ => by omega) (xa_subR rfl xa_sub0)))) ?_
          exact ih0 (x3 + 1) (xa_ib 4 x2 (xa_ib 6 1 x3)) (by omega) (by rw [show (x3 + 1).toNat = x3.toNat + 1 by omega, sk_b1 (show sk_no (M 96) (M 97) (M 98) a ((x3.toNat : Nat) : Int) by unfold sk_no; rw [ei]; omega), ← hb, ei]) (by omega)
  refine hgo.1 9 [4] 0 _ _ _ ?_
  show Q 4 [(3, (0, 0, 0, 0, 0)), (2, (0, 0, 0, 0, 0)), (0, (2, 60, 0, 0, 0)), (1, (0, 0, 0, 222, a))] [] M
  refine hgo.2.1 4 _ [(3, (0, 0, 0, 20, 0)), (2, (0, 0, (-2147483648), 2147483647, 0)), (1, (0, 0, 0, 222, a)), (0, (2, 60, 0, 0, 0))] _ _ (xa_subI rfl rfl (fun _ _ _ _ => by omega) (xa_subI rfl rfl (fun _ _ _ _ => by omega) (xa_subI rfl rfl (fun _ _ _ _ => by omega) (xa_subR rfl xa_sub0)))) ?_
  exact loop0 21 0 0 (by omega) rfl (by omega)
theorem ms_whenF {A : Nat → Nat} {h0 : g_H} {d : Nat} {M : xa_M} {post : Option xa_V → xa_M → Prop} (hI : xm_Inv M) (k : ∀ (lo hi r : Int) (M1 : xa_M), r = sk_n (M 96) (M 97) (M 98) (M 60 56).toNat 223 → xm_cor M M1 → post (some (0, 0, lo, hi, r)) M1) : xa_C xm_I A h0 (d + 2) 286 [(2, 60, 0, 0, 0)] M post := by
  refine xa_meth (Q0 := (3, 1, false, 0, 0, 12)) (by decide +kernel) ⟨rfl, rfl⟩ (full := s_c_286) rfl rfl ?_
  intro hM hv Q hgo
  have loop0 : ∀ (n : Nat) (x2 x1 : Int) (M1 : xa_M), 0 ≤ x2 ∧ x2 ≤ 223 → 0 ≤ x1 ∧ x1 ≤ 223 → xm_cor M M1 → x1 ≤ x2 → M1 60 20 ≤ x1 → x1 = sk_n (M 96) (M 97) (M 98) (M 60 56).toNat x2.toNat → 223 - x2 < (n : Int) → Q 14 [(2, (0, 0, 0, 223, x2)), (1, (0, 0, 0, 223, x1)), (0, (2, 60, 0, 0, 0))] [] M1 := by
    intro n
    induction n with
    | zero => intro x2 x1 M1 b2 b1 hc h12 h20 hb hms; omega
    | succ n ih0 =>
      intro x2 x1 M1 b2 b1 hc h12 h20 hb hms0
      have ei : ((x2.toNat : Nat) : Int) = x2 := Int.toNat_of_nonneg b2.1
      have f96 : M1 96 = M 96 := funext (fun j => hc 96 j (by omega))
      have f97 : M1 97 = M 97 := funext (fun j => hc 97 j (by omega))
      have f98 : M1 98 = M 98 := funext (fun j => hc 98 j (by omega))
      have f56 : M1 60 56 = M 60 56 := hc 60 56 (by omega)
      have b56 := xm_f56 hM
      refine hgo.2.2 _ _ _ _ (fun hM1 _ => ?_)
      have b20 := xm_f20 hM1
      refine hgo.1 22 [14] 14 _ _ _ ?_
      refine And.intro ?_ ?_
      · intro (c1 : 223 ≤ x2)
        show post (some (0, 0, 0, 223, x1)) M1
        exact k _ _ _ _ (by rw [hb, show x2 = 223 by omega]; rfl) hc
      · intro (c1 : x2 < 223)
        show xa_C xm_I A h0 _ 287 [(2, 60, 0, 0, 0), (0, 0, 0, 223, x2)] M1 _
        refine ct_againstF (by omega) (by omega) (fun r2 hr2 => ?_)
        rw [f96, f97, f98, f56, ← ei] at hr2
        refine And.intro ?_ ?_
        · intro (c3 : r2 = 0)
          refine And.intro ?_ ?_
          · intro (c4 : 10 ≤ x1)
            show Q 14 [(2, (0, 0, 1, 224, x2 + 1)), (1, (0, 0, 1, 224, x1 + 1)), (0, (2, 60, 0, 0, 0))] [] M1
            refine hgo.2.1 14 _ [(2, (0, 0, 0, 223, x2 + 1)), (1, (0, 0, 0, 223, x1 + 1)), (0, (2, 60, 0, 0, 0))] _ _ (xa_subI rfl rfl (fun _ _ _ _ => by omega) (xa_subI rfl rfl (fun _ _ _ _ => by omega) (xa_subR rfl xa_sub0))) ?_
            exact ih0 (x2 + 1) (x1 + 1) M1 (by omega) (by omega) hc (by omega) (by first | omega | (simp [xa_up]; done) | (simp [xa_up]; omega)) (by rw [show (x2 + 1).toNat = x2.toNat + 1 by omega, sk_n1 (hr2.symm.trans c3), ← hb]) (by omega)
          · intro (c4 : x1 < 10)
            show xa_C xm_I A h0 _ 231 [(2, 60, 0, 0, 0), (1, 0, 0, 223, x2)] M1 _
            refine ct_tell (n := M1 60 20) (by first | rfl | (simp [xa_up]; done) | omega) (by omega) (by omega) ?_
            show Q 14 [(2, (0, 0, 1, 224, x2 + 1)), (1, (0, 0, 1, 224, x1 + 1)), (0, (2, 60, 0, 0, 0))] [] (xa_up (xa_up M1 74 (M1 60 20) x2) 60 20 ((M1 60 20) + 1))
            refine hgo.2.1 14 _ [(2, (0, 0, 0, 223, x2 + 1)), (1, (0, 0, 0, 223, x1 + 1)), (0, (2, 60, 0, 0, 0))] _ _ (xa_subI rfl rfl (fun _ _ _ _ => by omega) (xa_subI rfl rfl (fun _ _ _ _ => by omega) (xa_subR rfl xa_sub0))) ?_
            exact ih0 (x2 + 1) (x1 + 1) (xa_up (xa_up M1 74 (M1 60 20) x2) 60 20 ((M1 60 20) + 1)) (by omega) (by omega) (xm_cor_f (by omega) (xm_cor_a rfl hc)) (by omega) (by first | omega | (simp [xa_up]; done) | (simp [xa_up]; omega)) (by rw [show (x2 + 1).toNat = x2.toNat + 1 by omega, sk_n1 (hr2.symm.trans c3), ← hb]) (by omega)
        · intro (c3 : ¬ r2 = 0)
          show Q 14 [(2, (0, 0, 1, 224, x2 + 1)), (1, (0, 0, 0, 223, x1)), (0, (2, 60, 0, 0, 0))] [] M1
          refine hgo.2.1 14 _ [(2, (0, 0, 0, 223, x2 + 1)), (1, (0, 0, 0, 223, x1)), (0, (2, 60, 0, 0, 0))] _ _ (xa_subI rfl rfl (fun _ _ _ _ => by omega) (xa_subI rfl rfl (fun _ _ _ _ => by omega) (xa_subR rfl xa_sub0))) ?_
          exact ih0 (x2 + 1) x1 M1 (by omega) (by omega) hc (by omega) (by first | omega | (simp [xa_up]; done) | (simp [xa_up]; omega)) (by rw [show (x2 + 1).toNat = x2.toNat + 1 by omega, sk_n0 (fun h => c3 (hr2.trans h)), ← hb]) (by omega)
  refine hgo.1 15 [14] 0 _ _ _ ?_
  show Q 14 [(2, (0, 0, 0, 0, 0)), (1, (0, 0, 0, 0, 0)), (0, (2, 60, 0, 0, 0))] [] (xa_up (xa_up M 60 21 0) 60 20 0)
  refine hgo.2.1 14 _ [(2, (0, 0, 0, 223, 0)), (1, (0, 0, 0, 223, 0)), (0, (2, 60, 0, 0, 0))] _ _ (xa_subI rfl rfl (fun _ _ _ _ => by omega) (xa_subI rfl rfl (fun _ _ _ _ => by omega) (xa_subR rfl xa_sub0))) ?_
  exact loop0 224 0 0 (xa_up (xa_up M 60 21 0) 60 20 0) (by omega) (by omega) (xm_cor_f (by omega) (xm_cor_f (by omega) xm_cor_r)) (by omega) (by first | omega | (simp [xa_up]; done) | (simp [xa_up]; omega)) rfl (by omega)

theorem iv_p185 (A : Nat → Nat) (cmp : Bool) : iv_pair (iv_J A) A 185 286 [] cmp false := iv_armK (fun W b h as M hJ hM hInv hs hR => by
  obtain rfl := iv_sp0 hs
  have hS := hR.2
  have s1 : iv_num h 38 4 = M 60 55 := hS.1
  have s2 : iv_num h 38 5 = M 60 56 := hS.2.1
  have s3 : iv_num h 38 6 = M 60 59 := hS.2.2.1
  have s4 : ∀ i, 0 ≤ i → i < 223 → iv_num h 39 i = M 96 i := hS.2.2.2.1
  have s5 : ∀ i, 0 ≤ i → i < 20 → iv_num h 40 i = M 97 i := hS.2.2.2.2.1
  have s6 : ∀ i, 0 ≤ i → i < 20 → iv_num h 41 i = M 98 i := hS.2.2.2.2.2.1
  have s7 : ∀ i, 0 ≤ i → i < 8 → iv_num h 42 i = M 99 i := hS.2.2.2.2.2.2
  have hMk := xa_H_Mok hM
  have b56 := xm_f56 hMk
  have b59 := xm_f59 hMk
  have hc := cw_185 (b := b) (A := A) (h0 := h) (d := 55) (M := iv_num h) (post := fun o M1 => (∃ lo hi, o = some (0, 0, lo, hi, sk_n (M 96) (M 97) (M 98) (M 60 56).toNat 223)) ∧ ∀ q j, lm_C q j → q < 60 → M1 q j = iv_num h q j) (by rw [s2]; exact b56) (fun k k0 k1 => by rw [s5 k k0 k1]; exact xm_t97 hMk k k0 k1) (fun k k0 k1 => by rw [s6 k k0 k1]; exact xm_t98 hMk k k0 k1) (fun k k0 k1 => by rw [s4 k k0 k1]; exact xm_t96 hMk k k0 k1) (fun r M1 e hk => ⟨iv_so (by rw [e, s2, sk_n_e ⟨s4, s5, s6⟩ (by omega)]), (fun q j hC _ => hk q j (by unfold lm_C at hC; omega) (by unfold lm_C at hC; omega))⟩)
  have hm := fun (h1 : g_H) => ms_whenF (A := A) (h0 := h1) (d := 58) (M := M) (post := fun o M2 => (∃ lo hi, o = some (0, 0, lo, hi, sk_n (M 96) (M 97) (M 98) (M 60 56).toNat 223)) ∧ xk_U M M2 ∧ xm_Inv M2) hInv (fun lo hi r M1 e hc => ⟨iv_so e, xk_cor hc, xm_Inv_cor hc hInv⟩)
  exact ⟨[(2, 0, 0, 0, 0)], [(2, 60, 0, 0, 0)], _, ⟨rfl, trivial⟩, ⟨rfl, trivial⟩, hc, hm⟩)
theorem cx_189w {b : Bool} {A : Nat → Nat} {h0 : g_H} {d : Nat} {M : xa_M} {post : Option xa_V → xa_M → Prop} (hn : 0 ≤ M 38 5 ∧ M 38 5 ≤ 20) (hs : ∀ k, 0 ≤ k → k < 20 → 0 ≤ M 40 k ∧ M 40 k ≤ 9999) (hw : ∀ k, 0 ≤ k → k < 20 → 0 ≤ M 41 k ∧ M 41 k ≤ 1) (hm : ∀ k, 0 ≤ k → k < 223 → 0 ≤ M 39 k ∧ M 39 k ≤ 1) (hz : 0 ≤ M 48 1 ∧ M 48 1 ≤ 16) (k : ∀ (r : Int) (M1 : xa_M), r = xa_bc (sk_b (M 39) (M 40) (M 41) (sk_w (M 39) (M 40) (M 41) (M 38 5).toNat 223) (M 38 5).toNat) → (∀ q j, ¬ q = 48 → ¬ q = 49 → M1 q j = M q j) → post (some (0, 0, (-2147483648), 2147483647, r)) M1) : xa_C (xl_I b) A h0 (d + 3) 189 [(2, 38, 0, 0, 0), (2, 48, 0, 0, 0)] M post := by
  refine xa_meth (Q0 := (6, 1, false, 0, 0, 2)) (by decide +kernel) ⟨rfl, rfl⟩ (full := s_c_189) rfl rfl ?_
  intro hM hv Q hgo
  have e9 := xa_w32_id (n := M 48 1 + 1) (by omega) (by omega)
  have loop : ∀ (n : Nat) (i bs fw : Int), 1 ≤ i → i ≤ 223 → (0 ≤ bs ∧ bs < i) → bs = sk_w (M 39) (M 40) (M 41) (M 38 5).toNat i.toNat → fw = xa_bc (sk_b (M 39) (M 40) (M 41) bs (M 38 5).toNat) → 223 - i < (n : Int) → Q 14 [(2, (0, 0, 0, 222, bs)), (3, (0, 0, (-2147483648), 2147483647, fw)), (4, (0, 0, 1, 223, i)), (0, (2, 38, 0, 0, 0)), (1, (2, 48, 0, 0, 0))] [] M := by
    intro n
    induction n with
    | zero => intro i bs fw i0 i1 i2 hb hf hms; omega
    | succ n ih =>
      intro i bs fw i0 i1 i2 hb hf hms
      have ei : ((i.toNat : Nat) : Int) = i := Int.toNat_of_nonneg (by omega)
      refine hgo.1 22 [14] 14 _ _ _ ?_
      refine And.intro ?_ ?_
      · intro (c1 : 223 ≤ i)
        show xa_C (xl_I b) A h0 _ 60 [(2, 48, 0, 0, 0), (1, 0, 0, 222, bs)] M _
        refine cx_60_48 (show 0 ≤ (M 48 1) by omega) ?_ ?_
        · intro (i2 : 16 ≤ (M 48 1))
          show xa_C (xl_I b) A h0 _ 187 [(2, 38, 0, 0, 0), (0, 0, 0, 222, bs)] M _
          refine cx_187w (show 0 ≤ bs ∧ bs ≤ 222 by omega) hn hs hw hm ?_
          show xa_C (xl_I b) A h0 _ 60 [(2, 48, 0, 0, 0), (1, 0, (-2147483648), 2147483647, sk_b (M 39) (M 40) (M 41) bs (M 38 5).toNat)] M _
          refine cx_60_48 (show 0 ≤ (M 48 1) by omega) ?_ ?_
          · intro (i3 : 16 ≤ (M 48 1))
            show post (some (0, 0, (-2147483648), 2147483647, fw)) M
            exact k _ _ (by rw [hf, hb, show i = 223 by omega]; rfl) (fun q j h1 h2 => by simp [xa_up, h1, h2])
          · intro (i4 : (M 48 1) < 16)
            show post (some (0, 0, (-2147483648), 2147483647, fw)) (xa_up (xa_up M 49 (M 48 1) (sk_b (M 39) (M 40) (M 41) bs (M 38 5).toNat)) 48 1 (xa_w32 ((M 48 1) + 1)))
            exact k _ _ (by rw [hf, hb, show i = 223 by omega]; rfl) (fun q j h1 h2 => by simp [xa_up, h1, h2])
        · intro (i5 : (M 48 1) < 16)
          show xa_C (xl_I b) A h0 _ 187 [(2, 38, 0, 0, 0), (0, 0, 0, 222, bs)] (xa_up (xa_up M 49 (M 48 1) bs) 48 1 (xa_w32 ((M 48 1) + 1))) _
          refine cx_187w (show 0 ≤ bs ∧ bs ≤ 222 by omega) hn hs hw hm ?_
          show xa_C (xl_I b) A h0 _ 60 [(2, 48, 0, 0, 0), (1, 0, (-2147483648), 2147483647, sk_b (M 39) (M 40) (M 41) bs (M 38 5).toNat)] (xa_up (xa_up M 49 (M 48 1) bs) 48 1 (xa_w32 ((M 48 1) + 1))) _
          refine cx_60_48 (show 0 ≤ (xa_w32 ((M 48 1) + 1)) by omega) ?_ ?_
          · intro (i6 : 16 ≤ (xa_w32 ((M 48 1) + 1)))
            show post (some (0, 0, (-2147483648), 2147483647, fw)) (xa_up (xa_up M 49 (M 48 1) bs) 48 1 (xa_w32 ((M 48 1) + 1)))
            exact k _ _ (by rw [hf, hb, show i = 223 by omega]; rfl) (fun q j h1 h2 => by simp [xa_up, h1, h2])
          · intro (i7 : (xa_w32 ((M 48 1) + 1)) < 16)
            show post (some (0, 0, (-2147483648), 2147483647, fw)) (xa_up (xa_up (xa_up (xa_up M 49 (M 48 1) bs) 48 1 (xa_w32 ((M 48 1) + 1))) 49 (xa_w32 ((M 48 1) + 1)) (sk_b (M 39) (M 40) (M 41) bs (M 38 5).toNat)) 48 1 (xa_w32 ((xa_w32 ((M 48 1) + 1)) + 1)))
            exact k _ _ (by rw [hf, hb, show i = 223 by omega]; rfl) (fun q j h1 h2 => by simp [xa_up, h1, h2])
      · intro (c1 : i < 223)
        show xa_C (xl_I b) A h0 _ 187 [(2, 38, 0, 0, 0), (0, 0, 1, 223, i)] M _
        refine cx_187w (show 0 ≤ i ∧ i ≤ 222 by omega) hn hs hw hm ?_
        show xa_C (xl_I b) A h0 _ 136 [(0, 0, (-2147483648), 2147483647, sk_b (M 39) (M 40) (M 41) i (M 38 5).toNat)] M _
        refine ct_bitCount ?_
        refine And.intro ?_ ?_
        · intro (c8 : fw ≤ (xa_bc (sk_b (M 39) (M 40) (M 41) i (M 38 5).toNat)))
          show Q 14 [(4, (0, 0, 2, 224, i + 1)), (5, (0, 0, (-2147483648), 2147483647, xa_bc (sk_b (M 39) (M 40) (M 41) i (M 38 5).toNat))), (2, (0, 0, 0, 222, bs)), (3, (0, 0, (-2147483648), 2147483647, fw)), (0, (2, 38, 0, 0, 0)), (1, (2, 48, 0, 0, 0))] [] M
          have c9 : ¬ (xa_bc (sk_b (M 39) (M 40) (M 41) ((i.toNat : Nat) : Int) (M 38 5).toNat) < xa_bc (sk_b (M 39) (M 40) (M 41) (sk_w (M 39) (M 40) (M 41) (M 38 5).toNat i.toNat) (M 38 5).toNat)) := by
            rw [ei, ← hb, ← hf]
            omega
          have en : bs = sk_w (M 39) (M 40) (M 41) (M 38 5).toNat (i + 1).toNat := by
            rw [show (i + 1).toNat = i.toNat + 1 by omega, sk_w0 (by omega) c9, ← hb]
          refine hgo.2.1 14 _ [(2, (0, 0, 0, 222, bs)), (3, (0, 0, (-2147483648), 2147483647, fw)), (4, (0, 0, 1, 223, i + 1)), (0, (2, 38, 0, 0, 0)), (1, (2, 48, 0, 0, 0))] _ _ (xa_subI rfl rfl (fun _ _ _ _ => by omega) (xa_subI rfl rfl (fun _ _ _ _ => by omega) (xa_subI rfl rfl (fun _ _ _ _ => by omega) (xa_subR rfl (xa_subR rfl (xa_sub0)))))) ?_
          exact ih (i + 1) _ _ (by omega) (by omega) (by omega) en hf (by omega)
        · intro (c8 : (xa_bc (sk_b (M 39) (M 40) (M 41) i (M 38 5).toNat)) < fw)
          show Q 14 [(4, (0, 0, 2, 224, i + 1)), (3, (0, 0, (-2147483648), 2147483647, xa_bc (sk_b (M 39) (M 40) (M 41) i (M 38 5).toNat))), (2, (0, 0, 1, 223, i)), (5, (0, 0, (-2147483648), 2147483647, xa_bc (sk_b (M 39) (M 40) (M 41) i (M 38 5).toNat))), (0, (2, 38, 0, 0, 0)), (1, (2, 48, 0, 0, 0))] [] M
          have c9 : (xa_bc (sk_b (M 39) (M 40) (M 41) ((i.toNat : Nat) : Int) (M 38 5).toNat) < xa_bc (sk_b (M 39) (M 40) (M 41) (sk_w (M 39) (M 40) (M 41) (M 38 5).toNat i.toNat) (M 38 5).toNat)) := by
            rw [ei, ← hb, ← hf]
            omega
          have en : i = sk_w (M 39) (M 40) (M 41) (M 38 5).toNat (i + 1).toNat := by
            rw [show (i + 1).toNat = i.toNat + 1 by omega, sk_w1 (by omega) c9, ei]
          refine hgo.2.1 14 _ [(2, (0, 0, 0, 222, i)), (3, (0, 0, (-2147483648), 2147483647, xa_bc (sk_b (M 39) (M 40) (M 41) i (M 38 5).toNat))), (4, (0, 0, 1, 223, i + 1)), (0, (2, 38, 0, 0, 0)), (1, (2, 48, 0, 0, 0))] _ _ (xa_subI rfl rfl (fun _ _ _ _ => by omega) (xa_subI rfl rfl (fun _ _ _ _ => by omega) (xa_subI rfl rfl (fun _ _ _ _ => by omega) (xa_subR rfl (xa_subR rfl (xa_sub0)))))) ?_
          exact ih (i + 1) _ _ (by omega) (by omega) (by omega) en rfl (by omega)
  refine hgo.1 14 [14] 0 _ _ _ ?_
  show xa_C (xl_I b) A h0 _ 187 [(2, 38, 0, 0, 0), (0, 0, 0, 0, 0)] M _
  refine cx_187w (show 0 ≤ 0 ∧ 0 ≤ 222 by omega) hn hs hw hm ?_
  show xa_C (xl_I b) A h0 _ 136 [(0, 0, (-2147483648), 2147483647, sk_b (M 39) (M 40) (M 41) 0 (M 38 5).toNat)] M _
  refine ct_bitCount ?_
  show Q 14 [(4, (0, 0, 1, 1, 1)), (3, (0, 0, (-2147483648), 2147483647, xa_bc (sk_b (M 39) (M 40) (M 41) 0 (M 38 5).toNat))), (2, (0, 0, 0, 0, 0)), (0, (2, 38, 0, 0, 0)), (1, (2, 48, 0, 0, 0))] [] M
  refine hgo.2.1 14 _ [(2, (0, 0, 0, 222, 0)), (3, (0, 0, (-2147483648), 2147483647, xa_bc (sk_b (M 39) (M 40) (M 41) 0 (M 38 5).toNat))), (4, (0, 0, 1, 223, 1)), (0, (2, 38, 0, 0, 0)), (1, (2, 48, 0, 0, 0))] _ _ (xa_subI rfl rfl (fun _ _ _ _ => by omega) (xa_subI rfl rfl (fun _ _ _ _ => by omega) (xa_subI rfl rfl (fun _ _ _ _ => by omega) (xa_subR rfl (xa_subR rfl (xa_sub0)))))) ?_
  exact loop 224 1 0 _ (by omega) (by omega) (by omega) rfl rfl (by omega)
theorem cw_188 {b : Bool} {A : Nat → Nat} {h0 : g_H} {d : Nat} {M : xa_M} {post : Option xa_V → xa_M → Prop} (hn : 0 ≤ M 38 5 ∧ M 38 5 ≤ 20) (hs : ∀ k, 0 ≤ k → k < 20 → 0 ≤ M 40 k ∧ M 40 k ≤ 9999) (hw : ∀ k, 0 ≤ k → k < 20 → 0 ≤ M 41 k ∧ M 41 k ≤ 1) (hm : ∀ k, 0 ≤ k → k < 223 → 0 ≤ M 39 k ∧ M 39 k ≤ 1) (k : ∀ (r : Int) (M1 : xa_M), r = xa_bc (sk_b (M 39) (M 40) (M 41) (sk_w (M 39) (M 40) (M 41) (M 38 5).toNat 223) (M 38 5).toNat) → (∀ q j, ¬ q = 48 → ¬ q = 49 → M1 q j = M q j) → post (some (0, 0, (-2147483648), 2147483647, r)) M1) : xa_C (xl_I b) A h0 (d + 4) 188 [(2, 0, 0, 0, 0)] M post := by
  refine xa_meth (Q0 := (1, 1, false, 0, 0, 11)) (by decide +kernel) ⟨rfl, rfl⟩ (full := s_c_188) rfl rfl ?_
  intro hM hv Q hgo
  refine hgo.1 13 [] 0 _ _ _ ?_
  show xa_C (xl_I b) A h0 _ 59 [(2, 48, 0, 0, 0)] M _
  refine cx_59_48 ?_
  show xa_C (xl_I b) A h0 _ 189 [(2, 38, 0, 0, 0), (2, 48, 0, 0, 0)] (xa_up M 48 1 0) _
  refine cx_189w hn hs hw hm (by simp [xa_up]) ?_
  intro r103 M104 (i1 : r103 = xa_bc (sk_b (M 39) (M 40) (M 41) (sk_w (M 39) (M 40) (M 41) (M 38 5).toNat 223) (M 38 5).toNat)) (i2 : ∀ q j, ¬ q = 48 → ¬ q = 49 → M104 q j = (xa_up M 48 1 0) q j)
  show post (some (0, 0, (-2147483648), 2147483647, r103)) M104
  exact k _ _ i1 (fun q j h1 h2 => (i2 q j h1 h2).trans (xa_up_ne (fun e => h1 e.1)))
theorem ms_wrongF {A : Nat → Nat} {h0 : g_H} {d : Nat} {M : xa_M} {post : Option xa_V → xa_M → Prop} (hI : xm_Inv M) (k : ∀ (lo hi r : Int) (M1 : xa_M), r = xa_bc (sk_b (M 96) (M 97) (M 98) (sk_w (M 96) (M 97) (M 98) (M 60 56).toNat 223) (M 60 56).toNat) → xm_iz M M1 → post (some (0, 0, lo, hi, r)) M1) : xa_C xm_I A h0 (d + 3) 288 [(2, 60, 0, 0, 0)] M post := by
  refine xa_meth (Q0 := (3, 1, false, 0, 0, 12)) (by decide +kernel) ⟨rfl, rfl⟩ (full := s_c_288) rfl rfl ?_
  intro hM hv Q hgo
  have loop0 : ∀ (n : Nat) (x2 x1 : Int) (M1 : xa_M), 1 ≤ x2 ∧ x2 ≤ 223 → 0 ≤ x1 ∧ x1 ≤ 222 → xm_iz M M1 → x1 < x2 → x1 = sk_w (M 96) (M 97) (M 98) (M 60 56).toNat x2.toNat → 223 - x2 < (n : Int) → Q 9 [(2, (0, 0, 1, 223, x2)), (1, (0, 0, 0, 222, x1)), (0, (2, 60, 0, 0, 0))] [] M1 := by
    intro n
    induction n with
    | zero => intro x2 x1 M1 b2 b1 hc hlt hb hms; omega
    | succ n ih0 =>
      intro x2 x1 M1 b2 b1 hc hlt hb hms0
      have ei : ((x2.toNat : Nat) : Int) = x2 := Int.toNat_of_nonneg (by omega)
      have f96 : M1 96 = M 96 := funext (fun j => hc 96 j (by unfold xm_izB; rw [show xk_B 96 j = true from rfl, Bool.or_true]))
      have f97 : M1 97 = M 97 := funext (fun j => hc 97 j (by unfold xm_izB; rw [show xk_B 97 j = true from rfl, Bool.or_true]))
      have f98 : M1 98 = M 98 := funext (fun j => hc 98 j (by unfold xm_izB; rw [show xk_B 98 j = true from rfl, Bool.or_true]))
      have f56 : M1 60 56 = M 60 56 := hc 60 56 (by unfold xm_izB; rw [show xk_B 60 56 = true from rfl, Bool.or_true])
      refine hgo.1 25 [9] 9 _ _ _ ?_
      refine And.intro ?_ ?_
      · intro (c1 : 223 ≤ x2)
        show xa_C xm_I A h0 _ 231 [(2, 60, 0, 0, 0), (1, 0, 0, 222, x1)] (xa_up M1 60 20 0) _
        refine ct_tell (n := 0) (by first | rfl | (simp [xa_up]; done) | omega) (by omega) (by omega) ?_
        show xa_C xm_I A h0 _ 287 [(2, 60, 0, 0, 0), (0, 0, 0, 222, x1)] (xa_up (xa_up (xa_up M1 60 20 0) 74 0 x1) 60 20 (0 + 1)) _
        refine ct_againstF (by omega) (by omega) (fun r2 hr2 => ?_)
        show xa_C xm_I A h0 _ 231 [(2, 60, 0, 0, 0), (1, 0, (-2147483648), 2147483647, r2)] (xa_up (xa_up (xa_up M1 60 20 0) 74 0 x1) 60 20 (0 + 1)) _
        refine ct_tell (n := (0 + 1)) (by first | rfl | (simp [xa_up]; done) | omega) (by omega) (by omega) ?_
        show xa_C xm_I A h0 _ 287 [(2, 60, 0, 0, 0), (0, 0, 0, 222, x1)] (xa_up (xa_up (xa_up (xa_up (xa_up M1 60 20 0) 74 0 x1) 60 20 (0 + 1)) 74 (0 + 1) r2) 60 20 ((0 + 1) + 1)) _
        refine ct_againstF (by omega) (by omega) (fun r3 hr3 => ?_)
        have hr3 : r3 = sk_b (M1 96) (M1 97) (M1 98) x1 (M1 60 56).toNat := hr3
        rw [f96, f97, f98, f56] at hr3
        show xa_C xm_I A h0 _ 136 [(0, 0, (-2147483648), 2147483647, r3)] (xa_up (xa_up (xa_up (xa_up (xa_up M1 60 20 0) 74 0 x1) 60 20 (0 + 1)) 74 (0 + 1) r2) 60 20 ((0 + 1) + 1)) _
        refine ct_bitCount ?_
        show post (some (0, 0, (-2147483648), 2147483647, xa_bc r3)) (xa_up (xa_up (xa_up (xa_up (xa_up M1 60 20 0) 74 0 x1) 60 20 (0 + 1)) 74 (0 + 1) r2) 60 20 ((0 + 1) + 1))
        exact k _ _ _ _ (by rw [hr3, hb, show x2 = 223 by omega]; rfl) (xm_iz_u rfl (xm_iz_u rfl (xm_iz_u rfl (xm_iz_u rfl (xm_iz_u rfl hc)))))
      · intro (c1 : x2 < 223)
        show xa_C xm_I A h0 _ 287 [(2, 60, 0, 0, 0), (0, 0, 1, 223, x2)] M1 _
        refine ct_againstF (by omega) (by omega) (fun r4 hr4 => ?_)
        rw [f96, f97, f98, f56] at hr4
        show xa_C xm_I A h0 _ 136 [(0, 0, (-2147483648), 2147483647, r4)] M1 _
        refine ct_bitCount ?_
        show xa_C xm_I A h0 _ 287 [(2, 60, 0, 0, 0), (0, 0, 0, 222, x1)] M1 _
        refine ct_againstF (by omega) (by omega) (fun r5 hr5 => ?_)
        rw [f96, f97, f98, f56] at hr5
        show xa_C xm_I A h0 _ 136 [(0, 0, (-2147483648), 2147483647, r5)] M1 _
        refine ct_bitCount ?_
        refine And.intro ?_ ?_
        · intro (c6 : (xa_bc r5) ≤ (xa_bc r4))
          show Q 9 [(2, (0, 0, 2, 224, x2 + 1)), (1, (0, 0, 0, 222, x1)), (0, (2, 60, 0, 0, 0))] [] M1
          refine hgo.2.1 9 _ [(2, (0, 0, 1, 223, x2 + 1)), (1, (0, 0, 0, 222, x1)), (0, (2, 60, 0, 0, 0))] _ _ (xa_subI rfl rfl (fun _ _ _ _ => by omega) (xa_subI rfl rfl (fun _ _ _ _ => by omega) (xa_subR rfl xa_sub0))) ?_
          have c9 : ¬ (xa_bc (sk_b (M 96) (M 97) (M 98) ((x2.toNat : Nat) : Int) (M 60 56).toNat) < xa_bc (sk_b (M 96) (M 97) (M 98) (sk_w (M 96) (M 97) (M 98) (M 60 56).toNat x2.toNat) (M 60 56).toNat)) := by
            rw [ei, ← hb, ← hr4, ← hr5]
            omega
          exact ih0 (x2 + 1) x1 M1 (by omega) (by omega) hc (by omega) (by rw [show (x2 + 1).toNat = x2.toNat + 1 by omega, sk_w0 (by omega) c9, ← hb]) (by omega)
        · intro (c6 : (xa_bc r4) < (xa_bc r5))
          show Q 9 [(2, (0, 0, 2, 224, x2 + 1)), (1, (0, 0, 1, 223, x2)), (0, (2, 60, 0, 0, 0))] [] M1
          refine hgo.2.1 9 _ [(2, (0, 0, 1, 223, x2 + 1)), (1, (0, 0, 0, 222, x2)), (0, (2, 60, 0, 0, 0))] _ _ (xa_subI rfl rfl (fun _ _ _ _ => by omega) (xa_subI rfl rfl (fun _ _ _ _ => by omega) (xa_subR rfl xa_sub0))) ?_
          have c9 : xa_bc (sk_b (M 96) (M 97) (M 98) ((x2.toNat : Nat) : Int) (M 60 56).toNat) < xa_bc (sk_b (M 96) (M 97) (M 98) (sk_w (M 96) (M 97) (M 98) (M 60 56).toNat x2.toNat) (M 60 56).toNat) := by
            rw [ei, ← hb, ← hr4, ← hr5]
            omega
          exact ih0 (x2 + 1) x2 M1 (by omega) (by omega) hc (by omega) (by rw [show (x2 + 1).toNat = x2.toNat + 1 by omega, sk_w1 (by omega) c9, ei]) (by omega)
  refine hgo.1 12 [9] 0 _ _ _ ?_
  show Q 9 [(2, (0, 0, 1, 1, 1)), (1, (0, 0, 0, 0, 0)), (0, (2, 60, 0, 0, 0))] [] (xa_up M 60 21 0)
  refine hgo.2.1 9 _ [(2, (0, 0, 1, 223, 1)), (1, (0, 0, 0, 222, 0)), (0, (2, 60, 0, 0, 0))] _ _ (xa_subI rfl rfl (fun _ _ _ _ => by omega) (xa_subI rfl rfl (fun _ _ _ _ => by omega) (xa_subR rfl xa_sub0))) ?_
  exact loop0 223 1 0 (xa_up M 60 21 0) (by omega) (by omega) (xm_iz_u rfl xm_iz_r) (by omega) rfl (by omega)

theorem iv_p188 (A : Nat → Nat) (cmp : Bool) : iv_pair (iv_J A) A 188 288 [] cmp false := iv_armK (fun W b h as M hJ hM hInv hs hR => by
  obtain rfl := iv_sp0 hs
  have hS := hR.2
  have s1 : iv_num h 38 4 = M 60 55 := hS.1
  have s2 : iv_num h 38 5 = M 60 56 := hS.2.1
  have s3 : iv_num h 38 6 = M 60 59 := hS.2.2.1
  have s4 : ∀ i, 0 ≤ i → i < 223 → iv_num h 39 i = M 96 i := hS.2.2.2.1
  have s5 : ∀ i, 0 ≤ i → i < 20 → iv_num h 40 i = M 97 i := hS.2.2.2.2.1
  have s6 : ∀ i, 0 ≤ i → i < 20 → iv_num h 41 i = M 98 i := hS.2.2.2.2.2.1
  have s7 : ∀ i, 0 ≤ i → i < 8 → iv_num h 42 i = M 99 i := hS.2.2.2.2.2.2
  have hMk := xa_H_Mok hM
  have b56 := xm_f56 hMk
  have b59 := xm_f59 hMk
  have hc := cw_188 (b := b) (A := A) (h0 := h) (d := 56) (M := iv_num h) (post := fun o M1 => (∃ lo hi, o = some (0, 0, lo, hi, xa_bc (sk_b (M 96) (M 97) (M 98) (sk_w (M 96) (M 97) (M 98) (M 60 56).toNat 223) (M 60 56).toNat))) ∧ ∀ q j, lm_C q j → q < 60 → M1 q j = iv_num h q j) (by rw [s2]; exact b56) (fun k k0 k1 => by rw [s5 k k0 k1]; exact xm_t97 hMk k k0 k1) (fun k k0 k1 => by rw [s6 k k0 k1]; exact xm_t98 hMk k k0 k1) (fun k k0 k1 => by rw [s4 k k0 k1]; exact xm_t96 hMk k k0 k1) (fun r M1 e hk => ⟨iv_so (by rw [e, s2, sk_w_e ⟨s4, s5, s6⟩ (by omega), sk_b_e ⟨s4, s5, s6⟩ _ (by omega)]), (fun q j hC _ => hk q j (by unfold lm_C at hC; omega) (by unfold lm_C at hC; omega))⟩)
  have hm := fun (h1 : g_H) => ms_wrongF (A := A) (h0 := h1) (d := 57) (M := M) (post := fun o M2 => (∃ lo hi, o = some (0, 0, lo, hi, xa_bc (sk_b (M 96) (M 97) (M 98) (sk_w (M 96) (M 97) (M 98) (M 60 56).toNat 223) (M 60 56).toNat))) ∧ xk_U M M2 ∧ xm_Inv M2) hInv (fun lo hi r M1 e hc => ⟨iv_so e, xm_iz_k hc, xm_Inv_is (xm_iz_is hc) hInv⟩)
  exact ⟨[(2, 0, 0, 0, 0)], [(2, 60, 0, 0, 0)], _, ⟨rfl, trivial⟩, ⟨rfl, trivial⟩, hc, hm⟩)
theorem cx_23_42 {b : Bool} {A : Nat → Nat} {h0 : g_H} {d : Nat} {M : xa_M} {post : Option xa_V → xa_M → Prop} {l1 u1 : Int} {i : Int} (h1 : 0 ≤ i ∧ i < 8) (k1 : post (some (0, 0, (-2147483648), 2147483647, M 42 i)) M) : xa_C (xl_I b) A h0 (d + 1) 23 [(2, 42, 0, 0, 0), (0, 0, l1, u1, i)] M post := by
  refine xa_C_arg [(2, 42, 0, 0, 0), (0, 0, (-2147483648), 2147483647, i)] (xa_svR (xa_svI (fun _ _ _ _ => by omega) xa_sv0)) ?_
  refine xa_meth (Q0 := (2, 1, false, 0, 0, 11)) (by decide +kernel) ⟨rfl, rfl⟩ (full := s_c_23) rfl rfl ?_
  intro hM hv Q hgo
  refine hgo.1 15 [] 0 _ _ _ ?_
  refine And.intro ?_ ?_
  · intro (c1 : i < 0)
    show post (some (0, 0, 0, 0, 0)) M
    exact absurd h1 (by omega)
  · intro (c1 : 0 ≤ i)
    refine And.intro ?_ ?_
    · intro (c2 : 8 ≤ i)
      show post (some (0, 0, 0, 0, 0)) M
      exact absurd h1 (by omega)
    · intro (c2 : i < 8)
      refine And.intro (show 0 ≤ i ∧ i < 8 by omega) ?_
      show post (some (0, 0, (-2147483648), 2147483647, M 42 i)) M
      exact k1
theorem cx_191w {b : Bool} {A : Nat → Nat} {h0 : g_H} {d : Nat} {M : xa_M} {post : Option xa_V → xa_M → Prop} (hn : 0 ≤ M 38 6 ∧ M 38 6 ≤ 8) (hy : ∀ j, 0 ≤ j → j < 8 → 0 ≤ M 42 j ∧ M 42 j ≤ 999) (k : ∀ (r : Int), yr_P (M 38 6) (M 42) r → post (some (0, 0, (-2147483648), 2147483647, r)) M) : xa_C (xl_I b) A h0 (d + 2) 191 [(2, 38, 0, 0, 0)] M post := by
  refine xa_C_wk ?_
  refine xa_meth (Q0 := (3, 1, false, 0, 0, 2)) (by decide +kernel) ⟨rfl, rfl⟩ (full := s_c_191) rfl rfl ?_
  intro hM hv Q hgo
  have loop : ∀ (n : Nat) (x2 x1 : Int), 1 ≤ x2 ∧ x2 ≤ 8 → x1 = M 42 0 % 4 → (∀ k, 1 ≤ k → k < x2 → M 42 k % 4 = M 42 0 % 4) → ¬ M 38 6 = 0 → 9 - x2 < (n : Int) → Q 22 [(2, (0, 0, 1, 8, x2)), (1, (0, 0, (-3), 3, x1)), (0, (2, 38, 0, 0, 0))] [] M := by
    intro n
    induction n with
    | zero => intro x2 x1 b2 hx hk hz hms; omega
    | succ n ih =>
      intro x2 x1 b2 hx hk hz hms
      have e7 := Int.emod_nonneg (M 42 0) (show (4 : Int) ≠ 0 by decide)
      have e8 := Int.emod_lt_of_pos (M 42 0) (show (0 : Int) < 4 by decide)
      refine hgo.1 19 [22] 22 _ _ _ ?_
      refine And.intro ?_ ?_
      · intro (c1 : (M 38 6) ≤ x2)
        show xa_wk post (some (0, 0, 0, 3, (4 - x1) % 4)) M
        exact xa_wkI ((4 - x1) % 4) rfl (fun _ _ => by omega) (k _ (Or.inr (Or.inl ⟨hz, fun k1 h1 h2 => hk k1 h1 (by omega), by rw [hx]⟩)))
      · intro (c1 : x2 < (M 38 6))
        show xa_C (xl_I b) A h0 _ 23 [(2, 42, 0, 0, 0), (0, 0, 1, 8, x2)] M _
        refine cx_23_42 (show 0 ≤ x2 ∧ x2 < 8 by omega) ?_
        refine And.intro ?_ ?_
        · intro (c2 : ((M 42 x2).tmod 4) = x1)
          show Q 22 [(2, (0, 0, 2, 9, x2 + 1)), (1, (0, 0, (-3), 3, x1)), (0, (2, 38, 0, 0, 0))] [] M
          have e9 : (M 42 x2).tmod 4 = M 42 x2 % 4 := Int.tmod_eq_emod_of_nonneg (hy x2 (by omega) (by omega)).1
          refine hgo.2.1 22 _ [(2, (0, 0, 1, 8, x2 + 1)), (1, (0, 0, (-3), 3, x1)), (0, (2, 38, 0, 0, 0))] _ _ (xa_subI rfl rfl (fun _ _ _ _ => by omega) (xa_subI rfl rfl (fun _ _ _ _ => by omega) (xa_subR rfl xa_sub0))) ?_
          exact ih (x2 + 1) x1 (by omega) hx (fun k1 g1 g2 => by
            by_cases e : k1 = x2
            · rw [e, ← e9, c2, hx]
            · exact hk k1 g1 (by omega)) hz (by omega)
        · intro (c2 : ¬ ((M 42 x2).tmod 4) = x1)
          show xa_wk post (some (0, 0, (-2), (-2), (-2))) M
          have e9 : (M 42 x2).tmod 4 = M 42 x2 % 4 := Int.tmod_eq_emod_of_nonneg (hy x2 (by omega) (by omega)).1
          exact xa_wkI (-2) rfl (fun _ _ => by omega) (k _ (Or.inr (Or.inr ⟨hz, ⟨x2, by omega, by omega, fun h => c2 (by rw [e9, h, hx])⟩, rfl⟩)))
  refine hgo.1 17 [22] 0 _ _ _ ?_
  refine And.intro ?_ ?_
  · intro (c1 : ¬ (M 38 6) = 0)
    show xa_C (xl_I b) A h0 _ 23 [(2, 42, 0, 0, 0), (0, 0, 0, 0, 0)] M _
    refine cx_23_42 (show 0 ≤ 0 ∧ 0 < 8 by omega) ?_
    show Q 22 [(2, (0, 0, 1, 1, 1)), (1, (0, 0, (-2147483648), 2147483647, (M 42 0).tmod 4)), (0, (2, 38, 0, 0, 0))] [] M
    have e9 : (M 42 0).tmod 4 = M 42 0 % 4 := Int.tmod_eq_emod_of_nonneg (hy 0 (by omega) (by omega)).1
    rw [e9]
    refine hgo.2.1 22 _ [(2, (0, 0, 1, 8, 1)), (1, (0, 0, (-3), 3, M 42 0 % 4)), (0, (2, 38, 0, 0, 0))] _ _ (xa_subI rfl rfl (fun _ _ _ _ => by omega) (xa_subI rfl rfl (fun _ _ _ _ => by omega) (xa_subR rfl xa_sub0))) ?_
    exact loop 10 1 _ (by omega) rfl (fun k1 h1 h2 => by omega) (by omega) (by omega)
  · intro (c1 : (M 38 6) = 0)
    show xa_wk post (some (0, 0, (-1), (-1), (-1))) M
    exact xa_wkI (-1) rfl (fun _ _ => by omega) (k _ (Or.inl ⟨c1, rfl⟩))
theorem cw_190 {b : Bool} {A : Nat → Nat} {h0 : g_H} {d : Nat} {M : xa_M} {post : Option xa_V → xa_M → Prop} (hn : 0 ≤ M 38 6 ∧ M 38 6 ≤ 8) (hy : ∀ j, 0 ≤ j → j < 8 → 0 ≤ M 42 j ∧ M 42 j ≤ 999) (k : ∀ (r : Int), yr_P (M 38 6) (M 42) r → post (some (0, 0, (-2147483648), 2147483647, r)) M) : xa_C (xl_I b) A h0 (d + 3) 190 [(2, 0, 0, 0, 0)] M post := by
  refine xa_meth (Q0 := (1, 1, false, 0, 0, 11)) (by decide +kernel) ⟨rfl, rfl⟩ (full := s_c_190) rfl rfl ?_
  intro hM hv Q hgo
  refine hgo.1 8 [] 0 _ _ _ ?_
  show xa_C (xl_I b) A h0 _ 191 [(2, 38, 0, 0, 0)] M _
  refine cx_191w hn hy ?_
  intro r105 (i1 : yr_P (M 38 6) (M 42) r105)
  show post (some (0, 0, (-2147483648), 2147483647, r105)) M
  exact k _ i1
theorem ms_yearF {A : Nat → Nat} {h0 : g_H} {d : Nat} {M : xa_M} {post : Option xa_V → xa_M → Prop} (hI : xm_Inv M) (k : ∀ (lo hi r : Int) (M1 : xa_M), yr_P (M 60 59) (M 99) r → xm_iz M M1 → post (some (0, 0, lo, hi, r)) M1) : xa_C xm_I A h0 (d + 1) 289 [(2, 60, 0, 0, 0)] M post := by
  refine xa_meth (Q0 := (3, 1, false, 0, 0, 12)) (by decide +kernel) ⟨rfl, rfl⟩ (full := s_c_289) rfl rfl ?_
  intro hM hv Q hgo
  have b59 := xm_f59 hM
  have b99 := xm_t99 hM
  have loop0 : ∀ (n : Nat) (x2 x1 : Int) (M1 : xa_M), 1 ≤ x2 ∧ x2 ≤ 9 → xm_iz M M1 → M1 60 59 = M 60 59 → (∀ j, M1 99 j = M 99 j) → x1 = (4 - M 99 0 % 4) % 4 → (∀ k, 1 ≤ k → k < x2 → M 99 k % 4 = M 99 0 % 4) → ¬ M 60 59 = 0 → 9 - x2 < (n : Int) → Q 29 [(2, (0, 0, 1, 9, x2)), (1, (0, 0, (-2147483648), 2147483647, x1)), (0, (2, 60, 0, 0, 0))] [] M1 := by
    intro n
    induction n with
    | zero => intro x2 x1 M1 b2 hc h59 h99 hx hk hz hms; omega
    | succ n ih0 =>
      intro x2 x1 M1 b2 hc h59 h99 hx hk hz hms0
      refine hgo.1 20 [29] 29 _ _ _ ?_
      refine And.intro ?_ ?_
      · intro (c1 : (M1 60 59) ≤ x2)
        show post (some (0, 0, (-2147483648), 2147483647, x1)) M1
        exact k _ _ _ _ (Or.inr (Or.inl ⟨hz, fun k1 h1 h2 => hk k1 h1 (by omega), hx⟩)) hc
      · intro (c1 : x2 < (M1 60 59))
        refine And.intro (show 0 ≤ x2 ∧ x2 < 8 by omega) ?_
        refine And.intro ?_ ?_
        · intro (c2 : ((xa_w32 (x1 + (M1 99 x2))).tmod 4) = 0)
          show Q 29 [(2, (0, 0, 2, 10, x2 + 1)), (1, (0, 0, (-2147483648), 2147483647, x1)), (0, (2, 60, 0, 0, 0))] [] M1
          refine hgo.2.1 29 _ [(2, (0, 0, 1, 9, x2 + 1)), (1, (0, 0, (-2147483648), 2147483647, x1)), (0, (2, 60, 0, 0, 0))] _ _ (xa_subI rfl rfl (fun _ _ _ _ => by omega) (xa_subI rfl rfl (fun _ _ _ _ => by omega) (xa_subR rfl xa_sub0))) ?_
          have v1 := b99 x2 (by omega) (by omega)
          have v0 := b99 0 (by omega) (by omega)
          rw [h99 x2, xa_w32_id (by omega) (by omega), Int.tmod_eq_emod_of_nonneg (by omega)] at c2
          exact ih0 (x2 + 1) x1 M1 (by omega) hc h59 h99 hx (fun k1 g1 g2 => by
            by_cases e : k1 = x2
            · rw [e]
              omega
            · exact hk k1 g1 (by omega)) hz (by omega)
        · intro (c2 : ¬ ((xa_w32 (x1 + (M1 99 x2))).tmod 4) = 0)
          show post (some (0, 0, (-2), (-2), (-2))) M1
          have v1 := b99 x2 (by omega) (by omega)
          have v0 := b99 0 (by omega) (by omega)
          rw [h99 x2, xa_w32_id (by omega) (by omega), Int.tmod_eq_emod_of_nonneg (by omega)] at c2
          exact k _ _ _ _ (Or.inr (Or.inr ⟨hz, ⟨x2, by omega, by omega, fun h => c2 (by omega)⟩, rfl⟩)) hc
  refine hgo.1 24 [29] 0 _ _ _ ?_
  refine And.intro ?_ ?_
  · intro (c1 : ¬ (M 60 59) = 0)
    show Q 29 [(2, (0, 0, 1, 1, 1)), (1, (0, 0, 0, 3, (4 - ((M 99 0) % 4)) % 4)), (0, (2, 60, 0, 0, 0))] [] (xa_up M 60 21 0)
    refine hgo.2.1 29 _ [(2, (0, 0, 1, 9, 1)), (1, (0, 0, (-2147483648), 2147483647, (4 - ((M 99 0) % 4)) % 4)), (0, (2, 60, 0, 0, 0))] _ _ (xa_subI rfl rfl (fun _ _ _ _ => by omega) (xa_subI rfl rfl (fun _ _ _ _ => by omega) (xa_subR rfl xa_sub0))) ?_
    exact loop0 9 1 ((4 - ((M 99 0) % 4)) % 4) (xa_up M 60 21 0) (by omega) (xm_iz_u rfl xm_iz_r) (by first | omega | (simp [xa_up]; done) | (simp [xa_up]; omega)) (fun j => xa_up_ne (by omega)) rfl (fun k1 h1 h2 => by omega) c1 (by omega)
  · intro (c1 : (M 60 59) = 0)
    show post (some (0, 0, (-1), (-1), (-1))) (xa_up M 60 21 0)
    exact k _ _ _ _ (Or.inl ⟨c1, rfl⟩) (xm_iz_u rfl xm_iz_r)

theorem iv_p190 (A : Nat → Nat) (cmp : Bool) : iv_pair (iv_J A) A 190 289 [] cmp false := iv_armU (fun W b h as M hJ hM hInv hs hR => by
  obtain rfl := iv_sp0 hs
  have hS := hR.2
  have s1 : iv_num h 38 4 = M 60 55 := hS.1
  have s2 : iv_num h 38 5 = M 60 56 := hS.2.1
  have s3 : iv_num h 38 6 = M 60 59 := hS.2.2.1
  have s4 : ∀ i, 0 ≤ i → i < 223 → iv_num h 39 i = M 96 i := hS.2.2.2.1
  have s5 : ∀ i, 0 ≤ i → i < 20 → iv_num h 40 i = M 97 i := hS.2.2.2.2.1
  have s6 : ∀ i, 0 ≤ i → i < 20 → iv_num h 41 i = M 98 i := hS.2.2.2.2.2.1
  have s7 : ∀ i, 0 ≤ i → i < 8 → iv_num h 42 i = M 99 i := hS.2.2.2.2.2.2
  have hMk := xa_H_Mok hM
  have b56 := xm_f56 hMk
  have b59 := xm_f59 hMk
  have hc := cw_190 (b := b) (A := A) (h0 := h) (d := 57) (M := iv_num h) (post := fun o M1 => (∃ lo hi n, o = some (0, 0, lo, hi, n) ∧ yr_P (M 60 59) (iv_num h 42) n) ∧ ∀ q j, lm_C q j → q < 60 → M1 q j = iv_num h q j) (by rw [s3]; exact b59) (fun j h1 h2 => by rw [s7 j h1 h2]; exact xm_t99 hMk j h1 h2) (fun r e => ⟨⟨_, _, r, rfl, by rw [s3] at e; exact e⟩, fun _ _ _ _ => rfl⟩)
  have hm := fun (h1 : g_H) => ms_yearF (A := A) (h0 := h1) (d := 59) (M := M) (post := fun o M2 => (∃ lo hi n, o = some (0, 0, lo, hi, n) ∧ yr_P (M 60 59) (M 99) n) ∧ xk_U M M2 ∧ xm_Inv M2) hInv (fun lo hi r M1 e hc => ⟨⟨lo, hi, r, rfl, e⟩, xm_iz_k hc, xm_Inv_is (xm_iz_is hc) hInv⟩)
  exact ⟨[(2, 0, 0, 0, 0)], [(2, 60, 0, 0, 0)], _, _, ⟨rfl, trivial⟩, ⟨rfl, trivial⟩, fun r r' h1 h2 => yr_one b59.1 (fun k k0 k1 => s7 k k0 (by omega)) h1 h2, hc, hm⟩)
