-- the sky: dial, seen, games (made by wip/u/mkfl.py)
set_option maxRecDepth 20000
theorem xa_up_self {M : xa_M} {q : Nat} {j : Int} : xa_up M q j (M q j) = M := by
  funext q2 j2
  by_cases e : q2 = q ∧ j2 = j
  · obtain ⟨rfl, rfl⟩ := e
    exact xa_up_eq
  · exact xa_up_ne e
def ld_ok (a : Int) : Prop := 0 ≤ a ∧ a < 223
theorem cx_180_38 {b : Bool} {A : Nat → Nat} {h0 : g_H} {d : Nat} {M : xa_M} {post : Option xa_V → xa_M → Prop} {l1 u1 l2 u2 : Int} {x1 x2 : Int} (h1 : 0 ≤ x2 ∧ x2 ≤ 1) (k1 : (x1 < 0) → post (some (0, 0, (-1), (-1), (-1))) M) (k2 : (0 ≤ x1) → (x1 < 223) → ((M 39 x1) = x2) → post (some (0, 0, (-2147483648), 2147483647, M 38 4)) (xa_up M 39 x1 x2)) (k3 : (0 ≤ x1) → (x1 < 223) → (¬ (M 39 x1) = x2) → (x2 = 0) → post (some (0, 0, (-2147483648), 2147483647, xa_w32 ((M 38 4) + (-1)))) (xa_up (xa_up M 38 4 (xa_w32 ((M 38 4) + (-1)))) 39 x1 x2)) (k4 : (0 ≤ x1) → (x1 < 223) → (¬ (M 39 x1) = x2) → (¬ x2 = 0) → post (some (0, 0, (-2147483648), 2147483647, xa_w32 ((M 38 4) + 1))) (xa_up (xa_up M 38 4 (xa_w32 ((M 38 4) + 1))) 39 x1 x2)) (k5 : (0 ≤ x1) → (223 ≤ x1) → post (some (0, 0, (-1), (-1), (-1))) M) : xa_C (xl_I b) A h0 (d + 1) 180 [(2, 38, 0, 0, 0), (0, 0, l1, u1, x1), (0, 0, l2, u2, x2)] M post := by
  refine xa_C_arg [(2, 38, 0, 0, 0), (0, 0, (-2147483648), 2147483647, x1), (0, 0, (-2147483648), 2147483647, x2)] (xa_svR (xa_svI (fun _ _ _ _ => by omega) (xa_svI (fun _ _ _ _ => by omega) (xa_sv0)))) ?_
  refine xa_meth (Q0 := (3, 1, false, 0, 0, 2)) (by decide +kernel) ⟨rfl, rfl⟩ (full := s_c_180) rfl rfl ?_
  intro hM hv Q hgo
  refine hgo.1 34 [] 0 _ _ _ ?_
  refine And.intro ?_ ?_
  · intro (c1 : x1 < 0)
    show post (some (0, 0, (-1), (-1), (-1))) M
    exact k1 c1
  · intro (c1 : 0 ≤ x1)
    refine And.intro ?_ ?_
    · intro (c2 : x1 < 223)
      refine And.intro (show 0 ≤ x1 ∧ x1 < 223 by omega) ?_
      refine And.intro ?_ ?_
      · intro (c3 : (M 39 x1) = x2)
        refine And.intro (show 0 ≤ x1 ∧ x1 < 223 by omega) ?_
        refine And.intro (show 0 ≤ x2 ∧ x2 ≤ 1 by omega) ?_
        show post (some (0, 0, (-2147483648), 2147483647, M 38 4)) (xa_up M 39 x1 x2)
        exact k2 c1 c2 c3
      · intro (c3 : ¬ (M 39 x1) = x2)
        refine And.intro ?_ ?_
        · intro (c4 : x2 = 0)
          refine And.intro (show 0 ≤ x1 ∧ x1 < 223 by omega) ?_
          refine And.intro (show 0 ≤ x2 ∧ x2 ≤ 1 by omega) ?_
          show post (some (0, 0, (-2147483648), 2147483647, xa_w32 ((M 38 4) + (-1)))) (xa_up (xa_up M 38 4 (xa_w32 ((M 38 4) + (-1)))) 39 x1 x2)
          exact k3 c1 c2 c3 c4
        · intro (c4 : ¬ x2 = 0)
          refine And.intro (show 0 ≤ x1 ∧ x1 < 223 by omega) ?_
          refine And.intro (show 0 ≤ x2 ∧ x2 ≤ 1 by omega) ?_
          show post (some (0, 0, (-2147483648), 2147483647, xa_w32 ((M 38 4) + 1))) (xa_up (xa_up M 38 4 (xa_w32 ((M 38 4) + 1))) 39 x1 x2)
          exact k4 c1 c2 c3 c4
    · intro (c2 : 223 ≤ x1)
      show post (some (0, 0, (-1), (-1), (-1))) M
      exact k5 c1 c2
theorem cx_179_0 {b : Bool} {A : Nat → Nat} {h0 : g_H} {d : Nat} {M : xa_M} {post : Option xa_V → xa_M → Prop} {l1 u1 l2 u2 : Int} {x1 x2 : Int} (h1 : 0 ≤ x2 ∧ x2 ≤ 1) (k1 : (x1 < 0) → post (some (0, 0, (-1), (-1), (-1))) M) (k2 : (0 ≤ x1) → (x1 < 223) → ((M 39 x1) = x2) → post (some (0, 0, (-2147483648), 2147483647, M 38 4)) (xa_up M 39 x1 x2)) (k3 : (0 ≤ x1) → (x1 < 223) → (¬ (M 39 x1) = x2) → (x2 = 0) → post (some (0, 0, (-2147483648), 2147483647, xa_w32 ((M 38 4) + (-1)))) (xa_up (xa_up M 38 4 (xa_w32 ((M 38 4) + (-1)))) 39 x1 x2)) (k4 : (0 ≤ x1) → (x1 < 223) → (¬ (M 39 x1) = x2) → (¬ x2 = 0) → post (some (0, 0, (-2147483648), 2147483647, xa_w32 ((M 38 4) + 1))) (xa_up (xa_up M 38 4 (xa_w32 ((M 38 4) + 1))) 39 x1 x2)) (k5 : (0 ≤ x1) → (223 ≤ x1) → post (some (0, 0, (-1), (-1), (-1))) M) : xa_C (xl_I b) A h0 (d + 2) 179 [(2, 0, 0, 0, 0), (0, 0, l1, u1, x1), (0, 0, l2, u2, x2)] M post := by
  refine xa_C_arg [(2, 0, 0, 0, 0), (0, 0, (-2147483648), 2147483647, x1), (0, 0, (-2147483648), 2147483647, x2)] (xa_svR (xa_svI (fun _ _ _ _ => by omega) (xa_svI (fun _ _ _ _ => by omega) (xa_sv0)))) ?_
  refine xa_meth (Q0 := (3, 1, false, 0, 0, 11)) (by decide +kernel) ⟨rfl, rfl⟩ (full := s_c_179) rfl rfl ?_
  intro hM hv Q hgo
  refine hgo.1 10 [] 0 _ _ _ ?_
  show xa_C (xl_I b) A h0 _ 180 [(2, 38, 0, 0, 0), (0, 0, (-2147483648), 2147483647, x1), (0, 0, (-2147483648), 2147483647, x2)] M _
  refine cx_180_38 (show 0 ≤ x2 ∧ x2 ≤ 1 by omega) ?_ ?_ ?_ ?_ ?_
  · intro (i1 : x1 < 0)
    show post (some (0, 0, (-1), (-1), (-1))) M
    exact k1 i1
  · intro (i2 : 0 ≤ x1) (i3 : x1 < 223) (i4 : (M 39 x1) = x2)
    show post (some (0, 0, (-2147483648), 2147483647, M 38 4)) (xa_up M 39 x1 x2)
    exact k2 i2 i3 i4
  · intro (i5 : 0 ≤ x1) (i6 : x1 < 223) (i7 : ¬ (M 39 x1) = x2) (i8 : x2 = 0)
    show post (some (0, 0, (-2147483648), 2147483647, xa_w32 ((M 38 4) + (-1)))) (xa_up (xa_up M 38 4 (xa_w32 ((M 38 4) + (-1)))) 39 x1 x2)
    exact k3 i5 i6 i7 i8
  · intro (i9 : 0 ≤ x1) (i10 : x1 < 223) (i11 : ¬ (M 39 x1) = x2) (i12 : ¬ x2 = 0)
    show post (some (0, 0, (-2147483648), 2147483647, xa_w32 ((M 38 4) + 1))) (xa_up (xa_up M 38 4 (xa_w32 ((M 38 4) + 1))) 39 x1 x2)
    exact k4 i9 i10 i11 i12
  · intro (i13 : 0 ≤ x1) (i14 : 223 ≤ x1)
    show post (some (0, 0, (-1), (-1), (-1))) M
    exact k5 i13 i14
theorem cw_179 {b : Bool} {A : Nat → Nat} {h0 : g_H} {d : Nat} {M : xa_M} {post : Option xa_V → xa_M → Prop} {l1 u1 l2 u2 x1 x2 : Int} (h1 : 0 ≤ x2 ∧ x2 ≤ 1) (hn : -2147483648 ≤ M 38 4 ∧ M 38 4 ≤ 2147483647) (ho : 0 ≤ x1 → x1 < 223 → 0 ≤ M 39 x1 ∧ M 39 x1 ≤ 1) (k : ∀ o M1, iv_P (ld_ok x1) (xa_w32 (M 38 4 + (x2 - M 39 x1))) (xa_up (xa_up M 38 4 (xa_w32 (M 38 4 + (x2 - M 39 x1)))) 39 x1 x2) (-1) M o M1 → post o M1) : xa_C (xl_I b) A h0 (d + 2) 179 [(2, 0, 0, 0, 0), (0, 0, l1, u1, x1), (0, 0, l2, u2, x2)] M post := by
  refine cx_179_0 h1 ?_ ?_ ?_ ?_ ?_
  · intro (c0 : x1 < 0)
    exact k _ _ (Or.inr ⟨by unfold ld_ok; omega, ⟨_, _, rfl⟩, rfl⟩)
  · intro (c0 : 0 ≤ x1) (c1 : x1 < 223) (c2 : (M 39 x1) = x2)
    have ho := ho (by omega) (by omega)
    have ex : xa_w32 (M 38 4 + (x2 - M 39 x1)) = M 38 4 := (congrArg xa_w32 (show M 38 4 + (x2 - M 39 x1) = M 38 4 by omega)).trans (xa_w32_id (by omega) (by omega))
    exact k _ _ (Or.inl ⟨by unfold ld_ok; omega, iv_so ex.symm, by rw [ex, xa_up_self]⟩)
  · intro (c0 : 0 ≤ x1) (c1 : x1 < 223) (c2 : ¬ (M 39 x1) = x2) (c3 : x2 = 0)
    have ho := ho (by omega) (by omega)
    have ex : xa_w32 (M 38 4 + (x2 - M 39 x1)) = xa_w32 ((M 38 4) + (-1)) := congrArg xa_w32 (show M 38 4 + (x2 - M 39 x1) = (M 38 4) + (-1) by omega)
    exact k _ _ (Or.inl ⟨by unfold ld_ok; omega, iv_so ex.symm, by rw [ex]⟩)
  · intro (c0 : 0 ≤ x1) (c1 : x1 < 223) (c2 : ¬ (M 39 x1) = x2) (c3 : ¬ x2 = 0)
    have ho := ho (by omega) (by omega)
    have ex : xa_w32 (M 38 4 + (x2 - M 39 x1)) = xa_w32 ((M 38 4) + 1) := congrArg xa_w32 (show M 38 4 + (x2 - M 39 x1) = (M 38 4) + 1 by omega)
    exact k _ _ (Or.inl ⟨by unfold ld_ok; omega, iv_so ex.symm, by rw [ex]⟩)
  · intro (c0 : 0 ≤ x1) (c1 : 223 ≤ x1)
    exact k _ _ (Or.inr ⟨by unfold ld_ok; omega, ⟨_, _, rfl⟩, rfl⟩)
theorem ms_dialF {A : Nat → Nat} {h0 : g_H} {d : Nat} {M : xa_M} {post : Option xa_V → xa_M → Prop} {l1 u1 l2 u2 : Int} {a b : Int} (hb : 0 ≤ b ∧ b ≤ 1) (hI : xm_Inv M) (k : ∀ (o : Option xa_V) (M1 : xa_M), iv_P (ld_ok a) (xa_w32 (M 60 55 + (b - M 96 a))) (xa_up (xa_up (xa_up M 60 21 0) 60 55 (xa_w32 (M 60 55 + (b - M 96 a)))) 96 a b) (-1) (xa_up M 60 21 0) o M1 → xm_Inv M1 → post o M1) : xa_C xm_I A h0 (d + 2) 283 [(2, 60, 0, 0, 0), (0, 0, l1, u1, a), (0, 0, l2, u2, b)] M post := by
  refine xa_C_arg [(2, 60, 0, 0, 0), (0, 0, (-2147483648), 2147483647, a), (0, 0, (-2147483648), 2147483647, b)] (xa_svR (xa_svI (fun _ _ _ _ => by omega) (xa_svI (fun _ _ _ _ => by omega) xa_sv0))) ?_
  refine xa_meth (Q0 := (3, 1, false, 0, 0, 12)) (by decide +kernel) ⟨rfl, rfl⟩ (full := s_c_283) rfl rfl ?_
  intro hM hv Q hgo
  refine hgo.1 37 [] 0 _ _ _ ?_
  show xa_C xm_I A h0 _ 214 [(0, 0, (-2147483648), 2147483647, a), (0, 0, 0, 0, 0), (0, 0, 222, 222, 222)] (xa_up M 60 21 0) _
  refine ct_in ?_ ?_
  · intro (i1 : 0 ≤ a ∧ a ≤ 222)
    refine And.intro ?_ ?_
    · intro (c2 : b = 0)
      refine And.intro (show 0 ≤ a ∧ a < 223 by omega) ?_
      refine And.intro ?_ ?_
      · intro (c3 : (M 96 a) = 0)
        refine And.intro (show 0 ≤ a ∧ a < 223 by omega) ?_
        refine And.intro (show 0 ≤ b ∧ b ≤ 1 by omega) ?_
        show post (some (0, 0, (-2147483648), 2147483647, (M 60 55) + (0 - 0))) (xa_up (xa_up (xa_up M 60 21 0) 60 55 ((M 60 55) + (0 - 0))) 96 a b)
        have t96 := xm_t96 hM a (by omega) (by omega)
        have b55 : (-2147483648) ≤ M 60 55 ∧ M 60 55 ≤ 2147483647 := hM 60 _ _ rfl 55 (by decide) (show (0 : Nat) < 2 by decide)
        have ex : xa_w32 (M 60 55 + (b - M 96 a)) = (M 60 55) + (0 - 0) := (congrArg xa_w32 (show M 60 55 + (b - M 96 a) = (M 60 55) + (0 - 0) by omega)).trans (xa_w32_id (by omega) (by omega))
        exact k _ _ (Or.inl ⟨by unfold ld_ok; omega, iv_so ex.symm, by rw [ex]⟩) (xm_Inv_is (xm_is_u rfl (xm_is_u rfl (xm_is_u rfl xm_is_r))) hI)
      · intro (c3 : ¬ (M 96 a) = 0)
        refine And.intro (show 0 ≤ a ∧ a < 223 by omega) ?_
        refine And.intro (show 0 ≤ b ∧ b ≤ 1 by omega) ?_
        show post (some (0, 0, (-2147483648), 2147483647, xa_w32 ((M 60 55) + (0 - 1)))) (xa_up (xa_up (xa_up M 60 21 0) 60 55 (xa_w32 ((M 60 55) + (0 - 1)))) 96 a b)
        have t96 := xm_t96 hM a (by omega) (by omega)
        have b55 : (-2147483648) ≤ M 60 55 ∧ M 60 55 ≤ 2147483647 := hM 60 _ _ rfl 55 (by decide) (show (0 : Nat) < 2 by decide)
        have ex : xa_w32 (M 60 55 + (b - M 96 a)) = xa_w32 ((M 60 55) + (0 - 1)) := congrArg xa_w32 (show M 60 55 + (b - M 96 a) = (M 60 55) + (0 - 1) by omega)
        exact k _ _ (Or.inl ⟨by unfold ld_ok; omega, iv_so ex.symm, by rw [ex]⟩) (xm_Inv_is (xm_is_u rfl (xm_is_u rfl (xm_is_u rfl xm_is_r))) hI)
    · intro (c2 : ¬ b = 0)
      refine And.intro (show 0 ≤ a ∧ a < 223 by omega) ?_
      refine And.intro ?_ ?_
      · intro (c4 : (M 96 a) = 0)
        refine And.intro (show 0 ≤ a ∧ a < 223 by omega) ?_
        refine And.intro (show 0 ≤ b ∧ b ≤ 1 by omega) ?_
        show post (some (0, 0, (-2147483648), 2147483647, xa_w32 ((M 60 55) + (1 - 0)))) (xa_up (xa_up (xa_up M 60 21 0) 60 55 (xa_w32 ((M 60 55) + (1 - 0)))) 96 a b)
        have t96 := xm_t96 hM a (by omega) (by omega)
        have b55 : (-2147483648) ≤ M 60 55 ∧ M 60 55 ≤ 2147483647 := hM 60 _ _ rfl 55 (by decide) (show (0 : Nat) < 2 by decide)
        have ex : xa_w32 (M 60 55 + (b - M 96 a)) = xa_w32 ((M 60 55) + (1 - 0)) := congrArg xa_w32 (show M 60 55 + (b - M 96 a) = (M 60 55) + (1 - 0) by omega)
        exact k _ _ (Or.inl ⟨by unfold ld_ok; omega, iv_so ex.symm, by rw [ex]⟩) (xm_Inv_is (xm_is_u rfl (xm_is_u rfl (xm_is_u rfl xm_is_r))) hI)
      · intro (c4 : ¬ (M 96 a) = 0)
        refine And.intro (show 0 ≤ a ∧ a < 223 by omega) ?_
        refine And.intro (show 0 ≤ b ∧ b ≤ 1 by omega) ?_
        show post (some (0, 0, (-2147483648), 2147483647, (M 60 55) + (1 - 1))) (xa_up (xa_up (xa_up M 60 21 0) 60 55 ((M 60 55) + (1 - 1))) 96 a b)
        have t96 := xm_t96 hM a (by omega) (by omega)
        have b55 : (-2147483648) ≤ M 60 55 ∧ M 60 55 ≤ 2147483647 := hM 60 _ _ rfl 55 (by decide) (show (0 : Nat) < 2 by decide)
        have ex : xa_w32 (M 60 55 + (b - M 96 a)) = (M 60 55) + (1 - 1) := (congrArg xa_w32 (show M 60 55 + (b - M 96 a) = (M 60 55) + (1 - 1) by omega)).trans (xa_w32_id (by omega) (by omega))
        exact k _ _ (Or.inl ⟨by unfold ld_ok; omega, iv_so ex.symm, by rw [ex]⟩) (xm_Inv_is (xm_is_u rfl (xm_is_u rfl (xm_is_u rfl xm_is_r))) hI)
  · intro (i1 : ¬ (0 ≤ a ∧ a ≤ 222))
    show post (some (0, 0, (-1), (-1), (-1))) (xa_up M 60 21 0)
    exact k _ _ (Or.inr ⟨by unfold ld_ok; omega, ⟨_, _, rfl⟩, rfl⟩) (xm_Inv_is (xm_is_u rfl xm_is_r) hI)

theorem iv_p179 (A : Nat → Nat) (cmp : Bool) : iv_pair (iv_J A) A 179 283 [0, 1] cmp false := iv_armP (fun W b h as M hJ hM hInv hs hR => by
  obtain ⟨m1, ys, rfl, -, hs⟩ := iv_spc hs
  obtain ⟨m2, ys, rfl, hb, hs⟩ := iv_spc hs
  obtain rfl := iv_sp0 hs
  have hb := hb rfl
  have hX : lm_X (xj (iv_num h) M) := hR.2.2
  have hMk := xa_H_Mok hM
  have s1 : iv_num h 38 4 = M 60 55 := hX.2.2.2.1
  have s2 : iv_num h 38 5 = M 60 56 := hX.2.2.2.2.1
  have s3 : iv_num h 38 6 = M 60 59 := hX.2.2.2.2.2.1
  have s4 : ∀ i, 0 ≤ i → i < 223 → iv_num h 39 i = M 96 i := hX.2.2.2.2.2.2.2.2.2.2.1
  have s5 : ∀ i, 0 ≤ i → i < 20 → iv_num h 40 i = M 97 i := hX.2.2.2.2.2.2.2.2.2.2.2.1
  have s6 : ∀ i, 0 ≤ i → i < 20 → iv_num h 41 i = M 98 i := hX.2.2.2.2.2.2.2.2.2.2.2.2.1
  have s7 : ∀ i, 0 ≤ i → i < 8 → iv_num h 42 i = M 99 i := hX.2.2.2.2.2.2.2.2.2.2.2.2.2.1
  have b55 : (-2147483648) ≤ M 60 55 ∧ M 60 55 ≤ 2147483647 := hMk 60 _ _ rfl 55 (by decide) (show (0 : Nat) < 2 by decide)
  have hc0 := cw_179 (b := b) (A := A) (h0 := h) (d := 58) (M := iv_num h) (l1 := -2147483648) (u1 := 2147483647) (l2 := -2147483648) (u2 := 2147483647) (x1 := m1.toInt) (x2 := m2.toInt) (by omega) (by omega) (fun c0 c1 => by rw [s4 _ c0 c1]; exact xm_t96 hMk _ c0 c1) (fun _ _ h => h)
  have hc : xa_C (xl_I b) A h 60 179 [(2, 0, 0, 0, 0), (0, 0, -2147483648, 2147483647, m1.toInt), (0, 0, -2147483648, 2147483647, m2.toInt)] (iv_num h) (iv_P (ld_ok m1.toInt) (xa_w32 (M 60 55 + (m2.toInt - M 96 m1.toInt))) (xa_up (xa_up (iv_num h) 38 4 (xa_w32 (M 60 55 + (m2.toInt - M 96 m1.toInt)))) 39 m1.toInt m2.toInt) (-1) (iv_num h)) := by
    by_cases c1 : 0 ≤ m1.toInt ∧ m1.toInt < 223
    · rw [s1, s4 _ c1.1 c1.2] at hc0
      exact hc0
    · exact xa_C_mono hc0 (fun o M1 hP => iv_P_no c1 c1 hP)
  have hm := fun (h1 : g_H) => ms_dialF (A := A) (h0 := h1) (d := 58) (M := M) (l1 := -2147483648) (u1 := 2147483647) (l2 := -2147483648) (u2 := 2147483647) (a := m1.toInt) (b := m2.toInt) (post := fun o M2 => iv_P (ld_ok m1.toInt) (xa_w32 (M 60 55 + (m2.toInt - M 96 m1.toInt))) _ (-1) _ o M2 ∧ xm_Inv M2) (by omega) hInv (fun o M1 hP hI => ⟨hP, hI⟩)
  refine ⟨[(2, 0, 0, 0, 0), (0, 0, -2147483648, 2147483647, m1.toInt), (0, 0, -2147483648, 2147483647, m2.toInt)], [(2, 60, 0, 0, 0), (0, 0, -2147483648, 2147483647, m1.toInt), (0, 0, -2147483648, 2147483647, m2.toInt)], _, _, _, _, _, _, _, ⟨rfl, iv_i m1, iv_i m2, trivial⟩, ⟨rfl, iv_i m1, iv_i m2, trivial⟩, hc, hm, fun hok => ⟨?_, fun z => ?_, fun z => ?_⟩, fun hok => ⟨?_, fun z => ?_, fun z => ?_⟩⟩
  · unfold ld_ok at hok
    refine lm_R_X hR (fun q j hC hq hn => ?_) (fun q j hC hq hn => ?_) ?_
    · exact (xa_up_ne (fun e => hn (by obtain ⟨rfl, rfl⟩ := e; unfold lm_XC; first | (simp; done) | (simp; omega) | omega))).trans (xa_up_ne (fun e => hn (by obtain ⟨rfl, rfl⟩ := e; unfold lm_XC; first | (simp; done) | (simp; omega) | omega)))
    · exact (xa_up_ne (fun e => hn (by obtain ⟨rfl, rfl⟩ := e; unfold lm_XC; first | (simp; done) | (simp; omega) | omega))).trans ((xa_up_ne (fun e => hn (by obtain ⟨rfl, rfl⟩ := e; unfold lm_XC; first | (simp; done) | (simp; omega) | omega))).trans (xa_up_ne (by first | (have t9 := lm_Cq hC; omega) | (unfold lm_C at hC; omega))))
    · refine ⟨?_, ?_, ?_, ?_, ?_, ?_, fun i i0 i1 => ?_, fun i i0 i1 => ?_, fun i i0 i1 => ?_, fun i i0 i1 => ?_, fun i i0 i1 => ?_, fun i i0 i1 => ?_, fun i i0 i1 => ?_, fun i i0 i1 => ?_, fun i i0 i1 => ?_, fun i i0 i1 => ?_⟩
      · simp [xj, xa_up]
        exact hX.1
      · simp [xj, xa_up]
        exact hX.2.1
      · simp [xj, xa_up]
        exact hX.2.2.1
      · simp [xj, xa_up]
      · simp [xj, xa_up]
        exact hX.2.2.2.2.1
      · simp [xj, xa_up]
        exact hX.2.2.2.2.2.1
      · simp [xj, xa_up]
        exact hX.2.2.2.2.2.2.1 i i0 i1
      · simp [xj, xa_up]
        exact hX.2.2.2.2.2.2.2.1 i i0 i1
      · simp [xj, xa_up]
        exact hX.2.2.2.2.2.2.2.2.1 i i0 i1
      · simp [xj, xa_up]
        exact hX.2.2.2.2.2.2.2.2.2.1 i i0 i1
      · by_cases e : i = m1.toInt
        · simp [xj, xa_up, e]
        · simp [xj, xa_up, e]
          exact hX.2.2.2.2.2.2.2.2.2.2.1 i i0 i1
      · simp [xj, xa_up]
        exact hX.2.2.2.2.2.2.2.2.2.2.2.1 i i0 i1
      · simp [xj, xa_up]
        exact hX.2.2.2.2.2.2.2.2.2.2.2.2.1 i i0 i1
      · simp [xj, xa_up]
        exact hX.2.2.2.2.2.2.2.2.2.2.2.2.2.1 i i0 i1
      · simp [xj, xa_up]
        exact hX.2.2.2.2.2.2.2.2.2.2.2.2.2.2.1 i i0 i1
      · simp [xj, xa_up]
        exact hX.2.2.2.2.2.2.2.2.2.2.2.2.2.2.2 i i0 i1
  · simp [xa_up]
  · simp [xa_up]
  · refine lm_R_k (fun q j hC => ?_) hR
    unfold xj
    by_cases hq : q < 60
    · rw [if_pos hq, if_pos hq]
    · rw [if_neg hq, if_neg hq]
      exact xa_up_ne (by first | (have t9 := lm_Cq hC; omega) | (unfold lm_C at hC; omega))
  · simp [xa_up]
  · simp [xa_up])
def le_ok (a n : Int) : Prop := 0 ≤ a ∧ a ≤ 9999 ∧ n < 20
theorem cx_18_40 {b : Bool} {A : Nat → Nat} {h0 : g_H} {d : Nat} {M : xa_M} {post : Option xa_V → xa_M → Prop} {l1 u1 l2 u2 : Int} {i v : Int} (h1 : 0 ≤ i ∧ i < 20) (k1 : post none (xa_up M 40 i v)) : xa_C (xl_I b) A h0 (d + 1) 18 [(2, 40, 0, 0, 0), (0, 0, l1, u1, i), (0, 0, l2, u2, v)] M post := by
  refine xa_C_arg [(2, 40, 0, 0, 0), (0, 0, (-2147483648), 2147483647, i), (0, 0, (-2147483648), 2147483647, v)] (xa_svR (xa_svI (fun _ _ _ _ => by omega) (xa_svI (fun _ _ _ _ => by omega) xa_sv0))) ?_
  refine xa_meth (Q0 := (3, 0, false, 0, 0, 11)) (by decide +kernel) ⟨rfl, rfl⟩ (full := s_c_18) rfl rfl ?_
  intro hM hv Q hgo
  refine hgo.1 15 [] 0 _ _ _ ?_
  refine And.intro ?_ ?_
  · intro (c1 : i < 0)
    show post none M
    exact absurd h1 (by omega)
  · intro (c1 : 0 ≤ i)
    refine And.intro ?_ ?_
    · intro (c2 : 20 ≤ i)
      show post none M
      exact absurd h1 (by omega)
    · intro (c2 : i < 20)
      refine And.intro (show 0 ≤ i ∧ i < 20 by omega) ?_
      show post none (xa_up M 40 i v)
      exact k1
theorem cx_182_38 {b : Bool} {A : Nat → Nat} {h0 : g_H} {d : Nat} {M : xa_M} {post : Option xa_V → xa_M → Prop} {l1 u1 l2 u2 : Int} {x1 x2 : Int} (h1 : 0 ≤ x2 ∧ x2 ≤ 1) (h2 : 0 ≤ (M 38 5) ∧ (M 38 5) ≤ 20) (k1 : (x1 < 0) → post (some (0, 0, (-1), (-1), (-1))) M) (k2 : (0 ≤ x1) → (9999 < x1) → post (some (0, 0, (-1), (-1), (-1))) M) (k3 : (0 ≤ x1) → (x1 ≤ 9999) → ((M 38 5) < 20) → post (some (0, 0, 0, 20, (M 38 5) + 1)) (xa_up (xa_up (xa_up M 40 (M 38 5) x1) 41 (M 38 5) x2) 38 5 ((M 38 5) + 1))) (k4 : (0 ≤ x1) → (x1 ≤ 9999) → (20 ≤ (M 38 5)) → post (some (0, 0, (-1), (-1), (-1))) M) : xa_C (xl_I b) A h0 (d + 2) 182 [(2, 38, 0, 0, 0), (0, 0, l1, u1, x1), (0, 0, l2, u2, x2)] M post := by
  refine xa_C_arg [(2, 38, 0, 0, 0), (0, 0, (-2147483648), 2147483647, x1), (0, 0, (-2147483648), 2147483647, x2)] (xa_svR (xa_svI (fun _ _ _ _ => by omega) (xa_svI (fun _ _ _ _ => by omega) (xa_sv0)))) ?_
  refine xa_meth (Q0 := (3, 1, false, 0, 0, 2)) (by decide +kernel) ⟨rfl, rfl⟩ (full := s_c_182) rfl rfl ?_
  intro hM hv Q hgo
  refine hgo.1 36 [] 0 _ _ _ ?_
  refine And.intro ?_ ?_
  · intro (c1 : x1 < 0)
    show post (some (0, 0, (-1), (-1), (-1))) M
    exact k1 c1
  · intro (c1 : 0 ≤ x1)
    refine And.intro ?_ ?_
    · intro (c2 : 9999 < x1)
      show post (some (0, 0, (-1), (-1), (-1))) M
      exact k2 c1 c2
    · intro (c2 : x1 ≤ 9999)
      refine And.intro ?_ ?_
      · intro (c3 : (M 38 5) < 20)
        show xa_C (xl_I b) A h0 _ 18 [(2, 40, 0, 0, 0), (0, 0, 0, 20, M 38 5), (0, 0, (-2147483648), 2147483647, x1)] M _
        refine cx_18_40 (show 0 ≤ (M 38 5) ∧ (M 38 5) < 20 by omega) ?_
        refine And.intro (show 0 ≤ (M 38 5) ∧ (M 38 5) < 20 by omega) ?_
        refine And.intro (show 0 ≤ x2 ∧ x2 ≤ 1 by omega) ?_
        refine And.intro (show 0 ≤ ((M 38 5) + 1) ∧ ((M 38 5) + 1) ≤ 20 by omega) ?_
        show post (some (0, 0, 0, 20, (M 38 5) + 1)) (xa_up (xa_up (xa_up M 40 (M 38 5) x1) 41 (M 38 5) x2) 38 5 ((M 38 5) + 1))
        exact k3 c1 c2 c3
      · intro (c3 : 20 ≤ (M 38 5))
        show post (some (0, 0, (-1), (-1), (-1))) M
        exact k4 c1 c2 c3
theorem cx_181_0 {b : Bool} {A : Nat → Nat} {h0 : g_H} {d : Nat} {M : xa_M} {post : Option xa_V → xa_M → Prop} {l1 u1 l2 u2 : Int} {x1 x2 : Int} (h1 : 0 ≤ x2 ∧ x2 ≤ 1) (h2 : 0 ≤ (M 38 5) ∧ (M 38 5) ≤ 20) (k1 : (x1 < 0) → post (some (0, 0, (-1), (-1), (-1))) M) (k2 : (0 ≤ x1) → (9999 < x1) → post (some (0, 0, (-1), (-1), (-1))) M) (k3 : (0 ≤ x1) → (x1 ≤ 9999) → ((M 38 5) < 20) → post (some (0, 0, 0, 20, (M 38 5) + 1)) (xa_up (xa_up (xa_up M 40 (M 38 5) x1) 41 (M 38 5) x2) 38 5 ((M 38 5) + 1))) (k4 : (0 ≤ x1) → (x1 ≤ 9999) → (20 ≤ (M 38 5)) → post (some (0, 0, (-1), (-1), (-1))) M) : xa_C (xl_I b) A h0 (d + 3) 181 [(2, 0, 0, 0, 0), (0, 0, l1, u1, x1), (0, 0, l2, u2, x2)] M post := by
  refine xa_C_arg [(2, 0, 0, 0, 0), (0, 0, (-2147483648), 2147483647, x1), (0, 0, (-2147483648), 2147483647, x2)] (xa_svR (xa_svI (fun _ _ _ _ => by omega) (xa_svI (fun _ _ _ _ => by omega) (xa_sv0)))) ?_
  refine xa_meth (Q0 := (3, 1, false, 0, 0, 11)) (by decide +kernel) ⟨rfl, rfl⟩ (full := s_c_181) rfl rfl ?_
  intro hM hv Q hgo
  refine hgo.1 10 [] 0 _ _ _ ?_
  show xa_C (xl_I b) A h0 _ 182 [(2, 38, 0, 0, 0), (0, 0, (-2147483648), 2147483647, x1), (0, 0, (-2147483648), 2147483647, x2)] M _
  refine cx_182_38 (show 0 ≤ x2 ∧ x2 ≤ 1 by omega) (show 0 ≤ (M 38 5) ∧ (M 38 5) ≤ 20 by omega) ?_ ?_ ?_ ?_
  · intro (i1 : x1 < 0)
    show post (some (0, 0, (-1), (-1), (-1))) M
    exact k1 i1
  · intro (i2 : 0 ≤ x1) (i3 : 9999 < x1)
    show post (some (0, 0, (-1), (-1), (-1))) M
    exact k2 i2 i3
  · intro (i4 : 0 ≤ x1) (i5 : x1 ≤ 9999) (i6 : (M 38 5) < 20)
    show post (some (0, 0, 0, 20, (M 38 5) + 1)) (xa_up (xa_up (xa_up M 40 (M 38 5) x1) 41 (M 38 5) x2) 38 5 ((M 38 5) + 1))
    exact k3 i4 i5 i6
  · intro (i7 : 0 ≤ x1) (i8 : x1 ≤ 9999) (i9 : 20 ≤ (M 38 5))
    show post (some (0, 0, (-1), (-1), (-1))) M
    exact k4 i7 i8 i9
theorem cw_181 {b : Bool} {A : Nat → Nat} {h0 : g_H} {d : Nat} {M : xa_M} {post : Option xa_V → xa_M → Prop} {l1 u1 l2 u2 x1 x2 : Int} (h1 : 0 ≤ x2 ∧ x2 ≤ 1) (h2 : 0 ≤ (M 38 5) ∧ (M 38 5) ≤ 20) (k : ∀ o M1, iv_P (le_ok x1 (M 38 5)) (M 38 5 + 1) (xa_up (xa_up (xa_up M 40 (M 38 5) x1) 41 (M 38 5) x2) 38 5 (M 38 5 + 1)) (-1) M o M1 → post o M1) : xa_C (xl_I b) A h0 (d + 3) 181 [(2, 0, 0, 0, 0), (0, 0, l1, u1, x1), (0, 0, l2, u2, x2)] M post := by
  refine cx_181_0 h1 h2 ?_ ?_ ?_ ?_
  · intro (c0 : x1 < 0)
    exact k _ _ (Or.inr ⟨by unfold le_ok; omega, ⟨_, _, rfl⟩, rfl⟩)
  · intro (c0 : 0 ≤ x1) (c1 : 9999 < x1)
    exact k _ _ (Or.inr ⟨by unfold le_ok; omega, ⟨_, _, rfl⟩, rfl⟩)
  · intro (c0 : 0 ≤ x1) (c1 : x1 ≤ 9999) (c2 : (M 38 5) < 20)
    exact k _ _ (Or.inl ⟨by unfold le_ok; omega, ⟨_, _, rfl⟩, rfl⟩)
  · intro (c0 : 0 ≤ x1) (c1 : x1 ≤ 9999) (c2 : 20 ≤ (M 38 5))
    exact k _ _ (Or.inr ⟨by unfold le_ok; omega, ⟨_, _, rfl⟩, rfl⟩)
theorem ms_seenF {A : Nat → Nat} {h0 : g_H} {d : Nat} {M : xa_M} {post : Option xa_V → xa_M → Prop} {l1 u1 l2 u2 : Int} {a b : Int} (hb : 0 ≤ b ∧ b ≤ 1) (hI : xm_Inv M) (k : ∀ (o : Option xa_V) (M1 : xa_M), iv_P (le_ok a (M 60 56)) (M 60 56 + 1) (xa_up (xa_up (xa_up (xa_up M 60 21 0) 97 (M 60 56) a) 98 (M 60 56) b) 60 56 ((M 60 56) + 1)) (-1) (xa_up M 60 21 0) o M1 → xm_Inv M1 → post o M1) : xa_C xm_I A h0 (d + 2) 284 [(2, 60, 0, 0, 0), (0, 0, l1, u1, a), (0, 0, l2, u2, b)] M post := by
  refine xa_C_arg [(2, 60, 0, 0, 0), (0, 0, (-2147483648), 2147483647, a), (0, 0, (-2147483648), 2147483647, b)] (xa_svR (xa_svI (fun _ _ _ _ => by omega) (xa_svI (fun _ _ _ _ => by omega) xa_sv0))) ?_
  refine xa_meth (Q0 := (3, 1, false, 0, 0, 12)) (by decide +kernel) ⟨rfl, rfl⟩ (full := s_c_284) rfl rfl ?_
  intro hM hv Q hgo
  have b56 := xm_f56 hM
  refine hgo.1 37 [] 0 _ _ _ ?_
  show xa_C xm_I A h0 _ 214 [(0, 0, (-2147483648), 2147483647, a), (0, 0, 0, 0, 0), (0, 0, 9999, 9999, 9999)] (xa_up M 60 21 0) _
  refine ct_in ?_ ?_
  · intro (i1 : 0 ≤ a ∧ a ≤ 9999)
    refine And.intro ?_ ?_
    · intro (c2 : ¬ (M 60 56) = 20)
      refine And.intro (show 0 ≤ (M 60 56) ∧ (M 60 56) < 20 by omega) ?_
      refine And.intro (show 0 ≤ a ∧ a ≤ 9999 by omega) ?_
      refine And.intro (show 0 ≤ (M 60 56) ∧ (M 60 56) < 20 by omega) ?_
      refine And.intro (show 0 ≤ b ∧ b ≤ 1 by omega) ?_
      refine And.intro (show 0 ≤ ((M 60 56) + 1) ∧ ((M 60 56) + 1) ≤ 20 by omega) ?_
      show post (some (0, 0, 0, 20, (M 60 56) + 1)) (xa_up (xa_up (xa_up (xa_up M 60 21 0) 97 (M 60 56) a) 98 (M 60 56) b) 60 56 ((M 60 56) + 1))
      exact k _ _ (by first | exact Or.inr ⟨by unfold le_ok; omega, ⟨_, _, rfl⟩, rfl⟩ | exact Or.inl ⟨by unfold le_ok; omega, ⟨_, _, rfl⟩, rfl⟩) (xm_Inv_is (xm_is_u rfl (xm_is_u rfl (xm_is_u rfl (xm_is_u rfl xm_is_r)))) hI)
    · intro (c2 : (M 60 56) = 20)
      show post (some (0, 0, (-1), (-1), (-1))) (xa_up M 60 21 0)
      exact k _ _ (by first | exact Or.inr ⟨by unfold le_ok; omega, ⟨_, _, rfl⟩, rfl⟩ | exact Or.inl ⟨by unfold le_ok; omega, ⟨_, _, rfl⟩, rfl⟩) (xm_Inv_is (xm_is_u rfl xm_is_r) hI)
  · intro (i1 : ¬ (0 ≤ a ∧ a ≤ 9999))
    show post (some (0, 0, (-1), (-1), (-1))) (xa_up M 60 21 0)
    exact k _ _ (by first | exact Or.inr ⟨by unfold le_ok; omega, ⟨_, _, rfl⟩, rfl⟩ | exact Or.inl ⟨by unfold le_ok; omega, ⟨_, _, rfl⟩, rfl⟩) (xm_Inv_is (xm_is_u rfl xm_is_r) hI)

theorem iv_p181 (A : Nat → Nat) (cmp : Bool) : iv_pair (iv_J A) A 181 284 [0, 1] cmp false := iv_armP (fun W b h as M hJ hM hInv hs hR => by
  obtain ⟨m1, ys, rfl, -, hs⟩ := iv_spc hs
  obtain ⟨m2, ys, rfl, hb, hs⟩ := iv_spc hs
  obtain rfl := iv_sp0 hs
  have hb := hb rfl
  have hX : lm_X (xj (iv_num h) M) := hR.2.2
  have hMk := xa_H_Mok hM
  have s1 : iv_num h 38 4 = M 60 55 := hX.2.2.2.1
  have s2 : iv_num h 38 5 = M 60 56 := hX.2.2.2.2.1
  have s3 : iv_num h 38 6 = M 60 59 := hX.2.2.2.2.2.1
  have s4 : ∀ i, 0 ≤ i → i < 223 → iv_num h 39 i = M 96 i := hX.2.2.2.2.2.2.2.2.2.2.1
  have s5 : ∀ i, 0 ≤ i → i < 20 → iv_num h 40 i = M 97 i := hX.2.2.2.2.2.2.2.2.2.2.2.1
  have s6 : ∀ i, 0 ≤ i → i < 20 → iv_num h 41 i = M 98 i := hX.2.2.2.2.2.2.2.2.2.2.2.2.1
  have s7 : ∀ i, 0 ≤ i → i < 8 → iv_num h 42 i = M 99 i := hX.2.2.2.2.2.2.2.2.2.2.2.2.2.1
  have b56 := xm_f56 hMk
  have hc := cw_181 (b := b) (A := A) (h0 := h) (d := 57) (M := iv_num h) (l1 := -2147483648) (u1 := 2147483647) (l2 := -2147483648) (u2 := 2147483647) (x1 := m1.toInt) (x2 := m2.toInt) (by omega) (by omega) (fun _ _ h => h)
  rw [s2] at hc
  have hm := fun (h1 : g_H) => ms_seenF (A := A) (h0 := h1) (d := 58) (M := M) (l1 := -2147483648) (u1 := 2147483647) (l2 := -2147483648) (u2 := 2147483647) (a := m1.toInt) (b := m2.toInt) (post := fun o M2 => iv_P (le_ok m1.toInt (M 60 56)) (M 60 56 + 1) _ (-1) _ o M2 ∧ xm_Inv M2) (by omega) hInv (fun o M1 hP hI => ⟨hP, hI⟩)
  refine ⟨[(2, 0, 0, 0, 0), (0, 0, -2147483648, 2147483647, m1.toInt), (0, 0, -2147483648, 2147483647, m2.toInt)], [(2, 60, 0, 0, 0), (0, 0, -2147483648, 2147483647, m1.toInt), (0, 0, -2147483648, 2147483647, m2.toInt)], _, _, _, _, _, _, _, ⟨rfl, iv_i m1, iv_i m2, trivial⟩, ⟨rfl, iv_i m1, iv_i m2, trivial⟩, hc, hm, fun hok => ⟨?_, fun z => ?_, fun z => ?_⟩, fun hok => ⟨?_, fun z => ?_, fun z => ?_⟩⟩
  · unfold le_ok at hok
    refine lm_R_X hR (fun q j hC hq hn => ?_) (fun q j hC hq hn => ?_) ?_
    · exact (xa_up_ne (fun e => hn (by obtain ⟨rfl, rfl⟩ := e; unfold lm_XC; first | (simp; done) | (simp; omega) | omega))).trans ((xa_up_ne (fun e => hn (by obtain ⟨rfl, rfl⟩ := e; unfold lm_XC; first | (simp; done) | (simp; omega) | omega))).trans (xa_up_ne (fun e => hn (by obtain ⟨rfl, rfl⟩ := e; unfold lm_XC; first | (simp; done) | (simp; omega) | omega))))
    · exact (xa_up_ne (fun e => hn (by obtain ⟨rfl, rfl⟩ := e; unfold lm_XC; first | (simp; done) | (simp; omega) | omega))).trans ((xa_up_ne (fun e => hn (by obtain ⟨rfl, rfl⟩ := e; unfold lm_XC; first | (simp; done) | (simp; omega) | omega))).trans ((xa_up_ne (fun e => hn (by obtain ⟨rfl, rfl⟩ := e; unfold lm_XC; first | (simp; done) | (simp; omega) | omega))).trans (xa_up_ne (by first | (have t9 := lm_Cq hC; omega) | (unfold lm_C at hC; omega)))))
    · refine ⟨?_, ?_, ?_, ?_, ?_, ?_, fun i i0 i1 => ?_, fun i i0 i1 => ?_, fun i i0 i1 => ?_, fun i i0 i1 => ?_, fun i i0 i1 => ?_, fun i i0 i1 => ?_, fun i i0 i1 => ?_, fun i i0 i1 => ?_, fun i i0 i1 => ?_, fun i i0 i1 => ?_⟩
      · simp [xj, xa_up]
        exact hX.1
      · simp [xj, xa_up]
        exact hX.2.1
      · simp [xj, xa_up]
        exact hX.2.2.1
      · simp [xj, xa_up]
        exact hX.2.2.2.1
      · simp [xj, xa_up]
      · simp [xj, xa_up]
        exact hX.2.2.2.2.2.1
      · simp [xj, xa_up]
        exact hX.2.2.2.2.2.2.1 i i0 i1
      · simp [xj, xa_up]
        exact hX.2.2.2.2.2.2.2.1 i i0 i1
      · simp [xj, xa_up]
        exact hX.2.2.2.2.2.2.2.2.1 i i0 i1
      · simp [xj, xa_up]
        exact hX.2.2.2.2.2.2.2.2.2.1 i i0 i1
      · simp [xj, xa_up]
        exact hX.2.2.2.2.2.2.2.2.2.2.1 i i0 i1
      · by_cases e : i = M 60 56
        · simp [xj, xa_up, e]
        · simp [xj, xa_up, e]
          exact hX.2.2.2.2.2.2.2.2.2.2.2.1 i i0 i1
      · by_cases e : i = M 60 56
        · simp [xj, xa_up, e]
        · simp [xj, xa_up, e]
          exact hX.2.2.2.2.2.2.2.2.2.2.2.2.1 i i0 i1
      · simp [xj, xa_up]
        exact hX.2.2.2.2.2.2.2.2.2.2.2.2.2.1 i i0 i1
      · simp [xj, xa_up]
        exact hX.2.2.2.2.2.2.2.2.2.2.2.2.2.2.1 i i0 i1
      · simp [xj, xa_up]
        exact hX.2.2.2.2.2.2.2.2.2.2.2.2.2.2.2 i i0 i1
  · simp [xa_up]
  · simp [xa_up]
  · refine lm_R_k (fun q j hC => ?_) hR
    unfold xj
    by_cases hq : q < 60
    · rw [if_pos hq, if_pos hq]
    · rw [if_neg hq, if_neg hq]
      exact xa_up_ne (by first | (have t9 := lm_Cq hC; omega) | (unfold lm_C at hC; omega))
  · simp [xa_up]
  · simp [xa_up])
def lg_ok (a n : Int) : Prop := 0 ≤ a ∧ a ≤ 999 ∧ n < 8
theorem cx_18_42 {b : Bool} {A : Nat → Nat} {h0 : g_H} {d : Nat} {M : xa_M} {post : Option xa_V → xa_M → Prop} {l1 u1 l2 u2 : Int} {i v : Int} (h1 : 0 ≤ i ∧ i < 8) (k1 : post none (xa_up M 42 i v)) : xa_C (xl_I b) A h0 (d + 1) 18 [(2, 42, 0, 0, 0), (0, 0, l1, u1, i), (0, 0, l2, u2, v)] M post := by
  refine xa_C_arg [(2, 42, 0, 0, 0), (0, 0, (-2147483648), 2147483647, i), (0, 0, (-2147483648), 2147483647, v)] (xa_svR (xa_svI (fun _ _ _ _ => by omega) (xa_svI (fun _ _ _ _ => by omega) xa_sv0))) ?_
  refine xa_meth (Q0 := (3, 0, false, 0, 0, 11)) (by decide +kernel) ⟨rfl, rfl⟩ (full := s_c_18) rfl rfl ?_
  intro hM hv Q hgo
  refine hgo.1 15 [] 0 _ _ _ ?_
  refine And.intro ?_ ?_
  · intro (c1 : i < 0)
    show post none M
    exact absurd h1 (by omega)
  · intro (c1 : 0 ≤ i)
    refine And.intro ?_ ?_
    · intro (c2 : 8 ≤ i)
      show post none M
      exact absurd h1 (by omega)
    · intro (c2 : i < 8)
      refine And.intro (show 0 ≤ i ∧ i < 8 by omega) ?_
      show post none (xa_up M 42 i v)
      exact k1
theorem cx_184_38 {b : Bool} {A : Nat → Nat} {h0 : g_H} {d : Nat} {M : xa_M} {post : Option xa_V → xa_M → Prop} {l1 u1 : Int} {x1 : Int} (h1 : 0 ≤ (M 38 6) ∧ (M 38 6) ≤ 8) (k1 : (x1 < 0) → post (some (0, 0, (-1), (-1), (-1))) M) (k2 : (0 ≤ x1) → (999 < x1) → post (some (0, 0, (-1), (-1), (-1))) M) (k3 : (0 ≤ x1) → (x1 ≤ 999) → ((M 38 6) < 8) → post (some (0, 0, (-2147483648), 2147483647, xa_w32 ((M 38 6) + 1))) (xa_up (xa_up M 42 (M 38 6) x1) 38 6 (xa_w32 ((M 38 6) + 1)))) (k4 : (0 ≤ x1) → (x1 ≤ 999) → (8 ≤ (M 38 6)) → post (some (0, 0, (-1), (-1), (-1))) M) : xa_C (xl_I b) A h0 (d + 2) 184 [(2, 38, 0, 0, 0), (0, 0, l1, u1, x1)] M post := by
  refine xa_C_arg [(2, 38, 0, 0, 0), (0, 0, (-2147483648), 2147483647, x1)] (xa_svR (xa_svI (fun _ _ _ _ => by omega) (xa_sv0))) ?_
  refine xa_meth (Q0 := (2, 1, false, 0, 0, 2)) (by decide +kernel) ⟨rfl, rfl⟩ (full := s_c_184) rfl rfl ?_
  intro hM hv Q hgo
  refine hgo.1 28 [] 0 _ _ _ ?_
  refine And.intro ?_ ?_
  · intro (c1 : x1 < 0)
    show post (some (0, 0, (-1), (-1), (-1))) M
    exact k1 c1
  · intro (c1 : 0 ≤ x1)
    refine And.intro ?_ ?_
    · intro (c2 : 999 < x1)
      show post (some (0, 0, (-1), (-1), (-1))) M
      exact k2 c1 c2
    · intro (c2 : x1 ≤ 999)
      refine And.intro ?_ ?_
      · intro (c3 : (M 38 6) < 8)
        show xa_C (xl_I b) A h0 _ 18 [(2, 42, 0, 0, 0), (0, 0, (-2147483648), 2147483647, M 38 6), (0, 0, (-2147483648), 2147483647, x1)] M _
        refine cx_18_42 (show 0 ≤ (M 38 6) ∧ (M 38 6) < 8 by omega) ?_
        show post (some (0, 0, (-2147483648), 2147483647, xa_w32 ((M 38 6) + 1))) (xa_up (xa_up M 42 (M 38 6) x1) 38 6 (xa_w32 ((M 38 6) + 1)))
        exact k3 c1 c2 c3
      · intro (c3 : 8 ≤ (M 38 6))
        show post (some (0, 0, (-1), (-1), (-1))) M
        exact k4 c1 c2 c3
theorem cx_183_0 {b : Bool} {A : Nat → Nat} {h0 : g_H} {d : Nat} {M : xa_M} {post : Option xa_V → xa_M → Prop} {l1 u1 : Int} {x1 : Int} (h1 : 0 ≤ (M 38 6) ∧ (M 38 6) ≤ 8) (k1 : (x1 < 0) → post (some (0, 0, (-1), (-1), (-1))) M) (k2 : (0 ≤ x1) → (999 < x1) → post (some (0, 0, (-1), (-1), (-1))) M) (k3 : (0 ≤ x1) → (x1 ≤ 999) → ((M 38 6) < 8) → post (some (0, 0, (-2147483648), 2147483647, xa_w32 ((M 38 6) + 1))) (xa_up (xa_up M 42 (M 38 6) x1) 38 6 (xa_w32 ((M 38 6) + 1)))) (k4 : (0 ≤ x1) → (x1 ≤ 999) → (8 ≤ (M 38 6)) → post (some (0, 0, (-1), (-1), (-1))) M) : xa_C (xl_I b) A h0 (d + 3) 183 [(2, 0, 0, 0, 0), (0, 0, l1, u1, x1)] M post := by
  refine xa_C_arg [(2, 0, 0, 0, 0), (0, 0, (-2147483648), 2147483647, x1)] (xa_svR (xa_svI (fun _ _ _ _ => by omega) (xa_sv0))) ?_
  refine xa_meth (Q0 := (2, 1, false, 0, 0, 11)) (by decide +kernel) ⟨rfl, rfl⟩ (full := s_c_183) rfl rfl ?_
  intro hM hv Q hgo
  refine hgo.1 9 [] 0 _ _ _ ?_
  show xa_C (xl_I b) A h0 _ 184 [(2, 38, 0, 0, 0), (0, 0, (-2147483648), 2147483647, x1)] M _
  refine cx_184_38 (show 0 ≤ (M 38 6) ∧ (M 38 6) ≤ 8 by omega) ?_ ?_ ?_ ?_
  · intro (i1 : x1 < 0)
    show post (some (0, 0, (-1), (-1), (-1))) M
    exact k1 i1
  · intro (i2 : 0 ≤ x1) (i3 : 999 < x1)
    show post (some (0, 0, (-1), (-1), (-1))) M
    exact k2 i2 i3
  · intro (i4 : 0 ≤ x1) (i5 : x1 ≤ 999) (i6 : (M 38 6) < 8)
    show post (some (0, 0, (-2147483648), 2147483647, xa_w32 ((M 38 6) + 1))) (xa_up (xa_up M 42 (M 38 6) x1) 38 6 (xa_w32 ((M 38 6) + 1)))
    exact k3 i4 i5 i6
  · intro (i7 : 0 ≤ x1) (i8 : x1 ≤ 999) (i9 : 8 ≤ (M 38 6))
    show post (some (0, 0, (-1), (-1), (-1))) M
    exact k4 i7 i8 i9
theorem cw_183 {b : Bool} {A : Nat → Nat} {h0 : g_H} {d : Nat} {M : xa_M} {post : Option xa_V → xa_M → Prop} {l1 u1 x1 : Int} (h1 : 0 ≤ (M 38 6) ∧ (M 38 6) ≤ 8) (k : ∀ o M1, iv_P (lg_ok x1 (M 38 6)) (M 38 6 + 1) (xa_up (xa_up M 42 (M 38 6) x1) 38 6 (M 38 6 + 1)) (-1) M o M1 → post o M1) : xa_C (xl_I b) A h0 (d + 3) 183 [(2, 0, 0, 0, 0), (0, 0, l1, u1, x1)] M post := by
  refine cx_183_0 h1 ?_ ?_ ?_ ?_
  · intro (c0 : x1 < 0)
    exact k _ _ (Or.inr ⟨by unfold lg_ok; omega, ⟨_, _, rfl⟩, rfl⟩)
  · intro (c0 : 0 ≤ x1) (c1 : 999 < x1)
    exact k _ _ (Or.inr ⟨by unfold lg_ok; omega, ⟨_, _, rfl⟩, rfl⟩)
  · intro (c0 : 0 ≤ x1) (c1 : x1 ≤ 999) (c2 : (M 38 6) < 8)
    have ex : M 38 6 + 1 = xa_w32 (M 38 6 + 1) := (xa_w32_id (by omega) (by omega)).symm
    exact k _ _ (Or.inl ⟨by unfold lg_ok; omega, iv_so ex.symm, by rw [← ex]⟩)
  · intro (c0 : 0 ≤ x1) (c1 : x1 ≤ 999) (c2 : 8 ≤ (M 38 6))
    exact k _ _ (Or.inr ⟨by unfold lg_ok; omega, ⟨_, _, rfl⟩, rfl⟩)
theorem ms_gamesF {A : Nat → Nat} {h0 : g_H} {d : Nat} {M : xa_M} {post : Option xa_V → xa_M → Prop} {l1 u1 : Int} {a : Int} (hI : xm_Inv M) (k : ∀ (o : Option xa_V) (M1 : xa_M), iv_P (lg_ok a (M 60 59)) (M 60 59 + 1) (xa_up (xa_up (xa_up M 60 21 0) 99 (M 60 59) a) 60 59 ((M 60 59) + 1)) (-1) (xa_up M 60 21 0) o M1 → xm_Inv M1 → post o M1) : xa_C xm_I A h0 (d + 2) 285 [(2, 60, 0, 0, 0), (0, 0, l1, u1, a)] M post := by
  refine xa_C_arg [(2, 60, 0, 0, 0), (0, 0, (-2147483648), 2147483647, a)] (xa_svR (xa_svI (fun _ _ _ _ => by omega) xa_sv0)) ?_
  refine xa_meth (Q0 := (2, 1, false, 0, 0, 12)) (by decide +kernel) ⟨rfl, rfl⟩ (full := s_c_285) rfl rfl ?_
  intro hM hv Q hgo
  have b59 := xm_f59 hM
  refine hgo.1 31 [] 0 _ _ _ ?_
  show xa_C xm_I A h0 _ 214 [(0, 0, (-2147483648), 2147483647, a), (0, 0, 0, 0, 0), (0, 0, 999, 999, 999)] (xa_up M 60 21 0) _
  refine ct_in ?_ ?_
  · intro (i1 : 0 ≤ a ∧ a ≤ 999)
    refine And.intro ?_ ?_
    · intro (c2 : ¬ (M 60 59) = 8)
      refine And.intro (show 0 ≤ (M 60 59) ∧ (M 60 59) < 8 by omega) ?_
      refine And.intro (show 0 ≤ a ∧ a ≤ 999 by omega) ?_
      refine And.intro (show 0 ≤ ((M 60 59) + 1) ∧ ((M 60 59) + 1) ≤ 8 by omega) ?_
      show post (some (0, 0, 0, 8, (M 60 59) + 1)) (xa_up (xa_up (xa_up M 60 21 0) 99 (M 60 59) a) 60 59 ((M 60 59) + 1))
      exact k _ _ (by first | exact Or.inr ⟨by unfold lg_ok; omega, ⟨_, _, rfl⟩, rfl⟩ | exact Or.inl ⟨by unfold lg_ok; omega, ⟨_, _, rfl⟩, rfl⟩) (xm_Inv_is (xm_is_u rfl (xm_is_u rfl (xm_is_u rfl xm_is_r))) hI)
    · intro (c2 : (M 60 59) = 8)
      show post (some (0, 0, (-1), (-1), (-1))) (xa_up M 60 21 0)
      exact k _ _ (by first | exact Or.inr ⟨by unfold lg_ok; omega, ⟨_, _, rfl⟩, rfl⟩ | exact Or.inl ⟨by unfold lg_ok; omega, ⟨_, _, rfl⟩, rfl⟩) (xm_Inv_is (xm_is_u rfl xm_is_r) hI)
  · intro (i1 : ¬ (0 ≤ a ∧ a ≤ 999))
    show post (some (0, 0, (-1), (-1), (-1))) (xa_up M 60 21 0)
    exact k _ _ (by first | exact Or.inr ⟨by unfold lg_ok; omega, ⟨_, _, rfl⟩, rfl⟩ | exact Or.inl ⟨by unfold lg_ok; omega, ⟨_, _, rfl⟩, rfl⟩) (xm_Inv_is (xm_is_u rfl xm_is_r) hI)

theorem iv_p183 (A : Nat → Nat) (cmp : Bool) : iv_pair (iv_J A) A 183 285 [0] cmp false := iv_armP (fun W b h as M hJ hM hInv hs hR => by
  obtain ⟨m1, ys, rfl, -, hs⟩ := iv_spc hs
  obtain rfl := iv_sp0 hs
  have hX : lm_X (xj (iv_num h) M) := hR.2.2
  have hMk := xa_H_Mok hM
  have s1 : iv_num h 38 4 = M 60 55 := hX.2.2.2.1
  have s2 : iv_num h 38 5 = M 60 56 := hX.2.2.2.2.1
  have s3 : iv_num h 38 6 = M 60 59 := hX.2.2.2.2.2.1
  have s4 : ∀ i, 0 ≤ i → i < 223 → iv_num h 39 i = M 96 i := hX.2.2.2.2.2.2.2.2.2.2.1
  have s5 : ∀ i, 0 ≤ i → i < 20 → iv_num h 40 i = M 97 i := hX.2.2.2.2.2.2.2.2.2.2.2.1
  have s6 : ∀ i, 0 ≤ i → i < 20 → iv_num h 41 i = M 98 i := hX.2.2.2.2.2.2.2.2.2.2.2.2.1
  have s7 : ∀ i, 0 ≤ i → i < 8 → iv_num h 42 i = M 99 i := hX.2.2.2.2.2.2.2.2.2.2.2.2.2.1
  have b59 := xm_f59 hMk
  have hc := cw_183 (b := b) (A := A) (h0 := h) (d := 57) (M := iv_num h) (l1 := -2147483648) (u1 := 2147483647) (x1 := m1.toInt) (by omega) (fun _ _ h => h)
  rw [s3] at hc
  have hm := fun (h1 : g_H) => ms_gamesF (A := A) (h0 := h1) (d := 58) (M := M) (l1 := -2147483648) (u1 := 2147483647) (a := m1.toInt) (post := fun o M2 => iv_P (lg_ok m1.toInt (M 60 59)) (M 60 59 + 1) _ (-1) _ o M2 ∧ xm_Inv M2) hInv (fun o M1 hP hI => ⟨hP, hI⟩)
  refine ⟨[(2, 0, 0, 0, 0), (0, 0, -2147483648, 2147483647, m1.toInt)], [(2, 60, 0, 0, 0), (0, 0, -2147483648, 2147483647, m1.toInt)], _, _, _, _, _, _, _, ⟨rfl, iv_i m1, trivial⟩, ⟨rfl, iv_i m1, trivial⟩, hc, hm, fun hok => ⟨?_, fun z => ?_, fun z => ?_⟩, fun hok => ⟨?_, fun z => ?_, fun z => ?_⟩⟩
  · unfold lg_ok at hok
    refine lm_R_X hR (fun q j hC hq hn => ?_) (fun q j hC hq hn => ?_) ?_
    · exact (xa_up_ne (fun e => hn (by obtain ⟨rfl, rfl⟩ := e; unfold lm_XC; first | (simp; done) | (simp; omega) | omega))).trans (xa_up_ne (fun e => hn (by obtain ⟨rfl, rfl⟩ := e; unfold lm_XC; first | (simp; done) | (simp; omega) | omega)))
    · exact (xa_up_ne (fun e => hn (by obtain ⟨rfl, rfl⟩ := e; unfold lm_XC; first | (simp; done) | (simp; omega) | omega))).trans ((xa_up_ne (fun e => hn (by obtain ⟨rfl, rfl⟩ := e; unfold lm_XC; first | (simp; done) | (simp; omega) | omega))).trans (xa_up_ne (by first | (have t9 := lm_Cq hC; omega) | (unfold lm_C at hC; omega))))
    · refine ⟨?_, ?_, ?_, ?_, ?_, ?_, fun i i0 i1 => ?_, fun i i0 i1 => ?_, fun i i0 i1 => ?_, fun i i0 i1 => ?_, fun i i0 i1 => ?_, fun i i0 i1 => ?_, fun i i0 i1 => ?_, fun i i0 i1 => ?_, fun i i0 i1 => ?_, fun i i0 i1 => ?_⟩
      · simp [xj, xa_up]
        exact hX.1
      · simp [xj, xa_up]
        exact hX.2.1
      · simp [xj, xa_up]
        exact hX.2.2.1
      · simp [xj, xa_up]
        exact hX.2.2.2.1
      · simp [xj, xa_up]
        exact hX.2.2.2.2.1
      · simp [xj, xa_up]
      · simp [xj, xa_up]
        exact hX.2.2.2.2.2.2.1 i i0 i1
      · simp [xj, xa_up]
        exact hX.2.2.2.2.2.2.2.1 i i0 i1
      · simp [xj, xa_up]
        exact hX.2.2.2.2.2.2.2.2.1 i i0 i1
      · simp [xj, xa_up]
        exact hX.2.2.2.2.2.2.2.2.2.1 i i0 i1
      · simp [xj, xa_up]
        exact hX.2.2.2.2.2.2.2.2.2.2.1 i i0 i1
      · simp [xj, xa_up]
        exact hX.2.2.2.2.2.2.2.2.2.2.2.1 i i0 i1
      · simp [xj, xa_up]
        exact hX.2.2.2.2.2.2.2.2.2.2.2.2.1 i i0 i1
      · by_cases e : i = M 60 59
        · simp [xj, xa_up, e]
        · simp [xj, xa_up, e]
          exact hX.2.2.2.2.2.2.2.2.2.2.2.2.2.1 i i0 i1
      · simp [xj, xa_up]
        exact hX.2.2.2.2.2.2.2.2.2.2.2.2.2.2.1 i i0 i1
      · simp [xj, xa_up]
        exact hX.2.2.2.2.2.2.2.2.2.2.2.2.2.2.2 i i0 i1
  · simp [xa_up]
  · simp [xa_up]
  · refine lm_R_k (fun q j hC => ?_) hR
    unfold xj
    by_cases hq : q < 60
    · rw [if_pos hq, if_pos hq]
    · rw [if_neg hq, if_neg hq]
      exact xa_up_ne (by first | (have t9 := lm_Cq hC; omega) | (unfold lm_C at hC; omega))
  · simp [xa_up]
  · simp [xa_up])
