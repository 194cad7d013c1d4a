-- the axles stand: the pair that changes it (made by wip/u/mkpl.py)
set_option maxRecDepth 20000
def lx_ok (a b c : Int) : Prop := (0 ≤ a ∧ a ≤ 9) ∧ (-500 ≤ b ∧ b ≤ 500) ∧ (-500 ≤ c ∧ c ≤ 500)
theorem cx_138 {b : Bool} {A : Nat → Nat} {h0 : g_H} {d : Nat} {M : xa_M} {post : Option xa_V → xa_M → Prop} {l0 u0 : Int} {x1 : Int} (k1 : (x1 < (-500)) → post (some (0, 0, 0, 0, 0)) M) (k2 : ((-500) ≤ x1) → (500 < x1) → post (some (0, 0, 0, 0, 0)) M) (k3 : ((-500) ≤ x1) → (x1 ≤ 500) → post (some (0, 0, 1, 1, 1)) M) : xa_C (xl_I b) A h0 (d + 1) 138 [(0, 0, l0, u0, x1)] M post := by
  refine xa_C_arg [(0, 0, (-2147483648), 2147483647, x1)] (xa_svI (fun _ _ _ _ => by omega) (xa_sv0)) ?_
  refine xa_meth (Q0 := (1, 2, false, 0, 0, 11)) (by decide +kernel) ⟨rfl, rfl⟩ (full := s_c_138) rfl rfl ?_
  intro hM hv Q hgo
  refine hgo.1 13 [] 0 _ _ _ ?_
  refine And.intro ?_ ?_
  · intro (c1 : x1 < (-500))
    show post (some (0, 0, 0, 0, 0)) M
    exact k1 c1
  · intro (c1 : (-500) ≤ x1)
    refine And.intro ?_ ?_
    · intro (c2 : 500 < x1)
      show post (some (0, 0, 0, 0, 0)) M
      exact k2 c1 c2
    · intro (c2 : x1 ≤ 500)
      show post (some (0, 0, 1, 1, 1)) M
      exact k3 c1 c2
theorem cx_18_9 {b : Bool} {A : Nat → Nat} {h0 : g_H} {d : Nat} {M : xa_M} {post : Option xa_V → xa_M → Prop} {l1 u1 l2 u2 : Int} {i v : Int} (h1 : 0 ≤ i ∧ i < 10) (k1 : post none (xa_up M 9 i v)) : xa_C (xl_I b) A h0 (d + 1) 18 [(2, 9, 0, 0, 0), (0, 0, l1, u1, i), (0, 0, l2, u2, v)] M post := by
  refine xa_C_arg [(2, 9, 0, 0, 0), (0, 0, (-2147483648), 2147483647, i), (0, 0, (-2147483648), 2147483647, v)] (xa_svR (xa_svI (fun _ _ _ _ => by omega) (xa_svI (fun _ _ _ _ => by omega) xa_sv0))) ?_
  refine xa_meth (Q0 := (3, 0, false, 0, 0, 11)) (by decide +kernel) ⟨rfl, rfl⟩ (full := s_c_18) rfl rfl ?_
  intro hM hv Q hgo
  refine hgo.1 15 [] 0 _ _ _ ?_
  refine And.intro ?_ ?_
  · intro (c1 : i < 0)
    show post none M
    exact absurd h1 (by omega)
  · intro (c1 : 0 ≤ i)
    refine And.intro ?_ ?_
    · intro (c2 : 10 ≤ i)
      show post none M
      exact absurd h1 (by omega)
    · intro (c2 : i < 10)
      refine And.intro (show 0 ≤ i ∧ i < 10 by omega) ?_
      show post none (xa_up M 9 i v)
      exact k1
theorem cx_18_10 {b : Bool} {A : Nat → Nat} {h0 : g_H} {d : Nat} {M : xa_M} {post : Option xa_V → xa_M → Prop} {l1 u1 l2 u2 : Int} {i v : Int} (h1 : 0 ≤ i ∧ i < 10) (k1 : post none (xa_up M 10 i v)) : xa_C (xl_I b) A h0 (d + 1) 18 [(2, 10, 0, 0, 0), (0, 0, l1, u1, i), (0, 0, l2, u2, v)] M post := by
  refine xa_C_arg [(2, 10, 0, 0, 0), (0, 0, (-2147483648), 2147483647, i), (0, 0, (-2147483648), 2147483647, v)] (xa_svR (xa_svI (fun _ _ _ _ => by omega) (xa_svI (fun _ _ _ _ => by omega) xa_sv0))) ?_
  refine xa_meth (Q0 := (3, 0, false, 0, 0, 11)) (by decide +kernel) ⟨rfl, rfl⟩ (full := s_c_18) rfl rfl ?_
  intro hM hv Q hgo
  refine hgo.1 15 [] 0 _ _ _ ?_
  refine And.intro ?_ ?_
  · intro (c1 : i < 0)
    show post none M
    exact absurd h1 (by omega)
  · intro (c1 : 0 ≤ i)
    refine And.intro ?_ ?_
    · intro (c2 : 10 ≤ i)
      show post none M
      exact absurd h1 (by omega)
    · intro (c2 : i < 10)
      refine And.intro (show 0 ≤ i ∧ i < 10 by omega) ?_
      show post none (xa_up M 10 i v)
      exact k1
theorem cx_139_1 {b : Bool} {A : Nat → Nat} {h0 : g_H} {d : Nat} {M : xa_M} {post : Option xa_V → xa_M → Prop} {l1 u1 l2 u2 l3 u3 : Int} {x1 x2 x3 : Int} (h1 : 0 ≤ x1 ∧ x1 < 10) (k1 : post none (xa_up (xa_up M 9 x1 x2) 10 x1 x3)) : xa_C (xl_I b) A h0 (d + 2) 139 [(2, 1, 0, 0, 0), (0, 0, l1, u1, x1), (0, 0, l2, u2, x2), (0, 0, l3, u3, x3)] M post := by
  refine xa_C_arg [(2, 1, 0, 0, 0), (0, 0, (-2147483648), 2147483647, x1), (0, 0, (-2147483648), 2147483647, x2), (0, 0, (-2147483648), 2147483647, x3)] (xa_svR (xa_svI (fun _ _ _ _ => by omega) (xa_svI (fun _ _ _ _ => by omega) (xa_svI (fun _ _ _ _ => by omega) (xa_sv0))))) ?_
  refine xa_meth (Q0 := (4, 0, false, 0, 0, 1)) (by decide +kernel) ⟨rfl, rfl⟩ (full := s_c_139) rfl rfl ?_
  intro hM hv Q hgo
  refine hgo.1 15 [] 0 _ _ _ ?_
  show xa_C (xl_I b) A h0 _ 18 [(2, 9, 0, 0, 0), (0, 0, (-2147483648), 2147483647, x1), (0, 0, (-2147483648), 2147483647, x2)] M _
  refine cx_18_9 (show 0 ≤ x1 ∧ x1 < 10 by omega) ?_
  show xa_C (xl_I b) A h0 _ 18 [(2, 10, 0, 0, 0), (0, 0, (-2147483648), 2147483647, x1), (0, 0, (-2147483648), 2147483647, x3)] (xa_up M 9 x1 x2) _
  refine cx_18_10 (show 0 ≤ x1 ∧ x1 < 10 by omega) ?_
  show post none (xa_up (xa_up M 9 x1 x2) 10 x1 x3)
  exact k1
theorem cx_137_0 {b : Bool} {A : Nat → Nat} {h0 : g_H} {d : Nat} {M : xa_M} {post : Option xa_V → xa_M → Prop} {l1 u1 l2 u2 l3 u3 : Int} {x1 x2 x3 : Int} (k1 : (x1 < 0) → post (some (0, 0, 0, 0, 0)) M) (k2 : (0 ≤ x1) → (10 ≤ x1) → post (some (0, 0, 0, 0, 0)) M) (k3 : (0 ≤ x1) → (x1 < 10) → (x2 < (-500)) → post (some (0, 0, 0, 0, 0)) M) (k4 : (0 ≤ x1) → (x1 < 10) → ((-500) ≤ x2) → (500 < x2) → post (some (0, 0, 0, 0, 0)) M) (k5 : (0 ≤ x1) → (x1 < 10) → ((-500) ≤ x2) → (x2 ≤ 500) → (x3 < (-500)) → post (some (0, 0, 0, 0, 0)) M) (k6 : (0 ≤ x1) → (x1 < 10) → ((-500) ≤ x2) → (x2 ≤ 500) → ((-500) ≤ x3) → (500 < x3) → post (some (0, 0, 0, 0, 0)) M) (k7 : (0 ≤ x1) → (x1 < 10) → ((-500) ≤ x2) → (x2 ≤ 500) → ((-500) ≤ x3) → (x3 ≤ 500) → post (some (0, 0, 1, 1, 1)) (xa_up (xa_up M 9 x1 x2) 10 x1 x3)) : xa_C (xl_I b) A h0 (d + 3) 137 [(2, 0, 0, 0, 0), (0, 0, l1, u1, x1), (0, 0, l2, u2, x2), (0, 0, l3, u3, x3)] M post := by
  refine xa_C_arg [(2, 0, 0, 0, 0), (0, 0, (-2147483648), 2147483647, x1), (0, 0, (-2147483648), 2147483647, x2), (0, 0, (-2147483648), 2147483647, x3)] (xa_svR (xa_svI (fun _ _ _ _ => by omega) (xa_svI (fun _ _ _ _ => by omega) (xa_svI (fun _ _ _ _ => by omega) (xa_sv0))))) ?_
  refine xa_meth (Q0 := (4, 2, false, 0, 0, 11)) (by decide +kernel) ⟨rfl, rfl⟩ (full := s_c_137) rfl rfl ?_
  intro hM hv Q hgo
  refine hgo.1 21 [] 0 _ _ _ ?_
  show xa_C (xl_I b) A h0 _ 14 [(0, 0, (-2147483648), 2147483647, x1)] M _
  refine cx_14 ?_ ?_ ?_
  · intro (i1 : x1 < 0)
    show post (some (0, 0, 0, 0, 0)) M
    exact k1 i1
  · intro (i2 : 0 ≤ x1) (i3 : 10 ≤ x1)
    show post (some (0, 0, 0, 0, 0)) M
    exact k2 i2 i3
  · intro (i4 : 0 ≤ x1) (i5 : x1 < 10)
    show xa_C (xl_I b) A h0 _ 138 [(0, 0, (-2147483648), 2147483647, x2)] M _
    refine cx_138 ?_ ?_ ?_
    · intro (i6 : x2 < (-500))
      show post (some (0, 0, 0, 0, 0)) M
      exact k3 i4 i5 i6
    · intro (i7 : (-500) ≤ x2) (i8 : 500 < x2)
      show post (some (0, 0, 0, 0, 0)) M
      exact k4 i4 i5 i7 i8
    · intro (i9 : (-500) ≤ x2) (i10 : x2 ≤ 500)
      show xa_C (xl_I b) A h0 _ 138 [(0, 0, (-2147483648), 2147483647, x3)] M _
      refine cx_138 ?_ ?_ ?_
      · intro (i11 : x3 < (-500))
        show post (some (0, 0, 0, 0, 0)) M
        exact k5 i4 i5 i9 i10 i11
      · intro (i12 : (-500) ≤ x3) (i13 : 500 < x3)
        show post (some (0, 0, 0, 0, 0)) M
        exact k6 i4 i5 i9 i10 i12 i13
      · intro (i14 : (-500) ≤ x3) (i15 : x3 ≤ 500)
        show xa_C (xl_I b) A h0 _ 139 [(2, 1, 0, 0, 0), (0, 0, (-2147483648), 2147483647, x1), (0, 0, (-2147483648), 2147483647, x2), (0, 0, (-2147483648), 2147483647, x3)] M _
        refine cx_139_1 (show 0 ≤ x1 ∧ x1 < 10 by omega) ?_
        show post (some (0, 0, 1, 1, 1)) (xa_up (xa_up M 9 x1 x2) 10 x1 x3)
        exact k7 i4 i5 i9 i10 i14 i15
theorem cw_137 {b : Bool} {A : Nat → Nat} {h0 : g_H} {d : Nat} {M : xa_M} {l1 u1 l2 u2 l3 u3 : Int} {x1 x2 x3 : Int} : xa_C (xl_I b) A h0 (d + 3) 137 [(2, 0, 0, 0, 0), (0, 0, l1, u1, x1), (0, 0, l2, u2, x2), (0, 0, l3, u3, x3)] M (iv_P (lx_ok x1 x2 x3) 1 (xa_up (xa_up M 9 x1 x2) 10 x1 x3) 0 M) := by
  refine cx_137_0 ?_ ?_ ?_ ?_ ?_ ?_ ?_
  all_goals intros
  all_goals first
    | exact Or.inr ⟨by unfold lx_ok; omega, ⟨_, _, rfl⟩, rfl⟩
    | exact Or.inl ⟨by unfold lx_ok; omega, ⟨_, _, rfl⟩, rfl⟩
theorem ms_axleF {A : Nat → Nat} {h0 : g_H} {d : Nat} {M : xa_M} {post : Option xa_V → xa_M → Prop} {l1 u1 l2 u2 l3 u3 : Int} {a b c : Int} (hI : xm_Inv M) (k : ∀ (o : Option xa_V) (M1 : xa_M), iv_P (lx_ok a b c) 1 (xa_up (xa_up (xa_up M 60 21 0) 68 a b) 69 a c) 0 (xa_up M 60 21 0) o M1 → xm_Inv M1 → post o M1) : xa_C xm_I A h0 (d + 3) 262 [(2, 60, 0, 0, 0), (0, 0, l1, u1, a), (0, 0, l2, u2, b), (0, 0, l3, u3, c)] M post := by
  refine xa_C_arg [(2, 60, 0, 0, 0), (0, 0, (-2147483648), 2147483647, a), (0, 0, (-2147483648), 2147483647, b), (0, 0, (-2147483648), 2147483647, c)] (xa_svR (xa_svI (fun _ _ _ _ => by omega) (xa_svI (fun _ _ _ _ => by omega) (xa_svI (fun _ _ _ _ => by omega) xa_sv0)))) ?_
  refine xa_meth (Q0 := (4, 2, false, 0, 0, 12)) (by decide +kernel) ⟨rfl, rfl⟩ (full := s_c_262) rfl rfl ?_
  intro hM hv Q hgo
  refine hgo.1 32 [] 0 _ _ _ ?_
  show xa_C xm_I A h0 _ 215 [(0, 0, (-2147483648), 2147483647, a)] (xa_up M 60 21 0) _
  refine ct_isAxle ?_ ?_
  · intro (i1 : 0 ≤ a ∧ a ≤ 9)
    show xa_C xm_I A h0 _ 214 [(0, 0, (-2147483648), 2147483647, b), (0, 0, (-500), (-500), (-500)), (0, 0, 500, 500, 500)] (xa_up M 60 21 0) _
    refine ct_in ?_ ?_
    · intro (i2 : (-500) ≤ b ∧ b ≤ 500)
      show xa_C xm_I A h0 _ 214 [(0, 0, (-2147483648), 2147483647, c), (0, 0, (-500), (-500), (-500)), (0, 0, 500, 500, 500)] (xa_up M 60 21 0) _
      refine ct_in ?_ ?_
      · intro (i3 : (-500) ≤ c ∧ c ≤ 500)
        refine And.intro (show 0 ≤ a ∧ a < 10 by omega) ?_
        refine And.intro (show (-500) ≤ b ∧ b ≤ 500 by omega) ?_
        refine And.intro (show 0 ≤ a ∧ a < 10 by omega) ?_
        refine And.intro (show (-500) ≤ c ∧ c ≤ 500 by omega) ?_
        show post (some (0, 0, 1, 1, 1)) (xa_up (xa_up (xa_up M 60 21 0) 68 a b) 69 a c)
        exact k _ _ (by first | exact Or.inr ⟨by unfold lx_ok; omega, ⟨_, _, rfl⟩, rfl⟩ | exact Or.inl ⟨by unfold lx_ok; omega, ⟨_, _, rfl⟩, rfl⟩) (xm_Inv_is (xm_is_u rfl (xm_is_u rfl (xm_is_u rfl xm_is_r))) hI)
      · intro (i3 : ¬ ((-500) ≤ c ∧ c ≤ 500))
        show post (some (0, 0, 0, 0, 0)) (xa_up M 60 21 0)
        exact k _ _ (by first | exact Or.inr ⟨by unfold lx_ok; omega, ⟨_, _, rfl⟩, rfl⟩ | exact Or.inl ⟨by unfold lx_ok; omega, ⟨_, _, rfl⟩, rfl⟩) (xm_Inv_is (xm_is_u rfl xm_is_r) hI)
    · intro (i2 : ¬ ((-500) ≤ b ∧ b ≤ 500))
      show post (some (0, 0, 0, 0, 0)) (xa_up M 60 21 0)
      exact k _ _ (by first | exact Or.inr ⟨by unfold lx_ok; omega, ⟨_, _, rfl⟩, rfl⟩ | exact Or.inl ⟨by unfold lx_ok; omega, ⟨_, _, rfl⟩, rfl⟩) (xm_Inv_is (xm_is_u rfl xm_is_r) hI)
  · intro (i1 : ¬ (0 ≤ a ∧ a ≤ 9))
    show post (some (0, 0, 0, 0, 0)) (xa_up M 60 21 0)
    exact k _ _ (by first | exact Or.inr ⟨by unfold lx_ok; omega, ⟨_, _, rfl⟩, rfl⟩ | exact Or.inl ⟨by unfold lx_ok; omega, ⟨_, _, rfl⟩, rfl⟩) (xm_Inv_is (xm_is_u rfl xm_is_r) hI)
theorem iv_p137 (A : Nat → Nat) (cmp : Bool) : iv_pair (iv_J A) A 137 262 [0, 0, 0] cmp false := iv_armP (fun W b h as M hJ hM hInv hs hR => by
  obtain ⟨m1, ys, rfl, -, hs⟩ := iv_spc hs
  obtain ⟨m2, ys, rfl, -, hs⟩ := iv_spc hs
  obtain ⟨m3, ys, rfl, -, hs⟩ := iv_spc hs
  obtain rfl := iv_sp0 hs
  have hX : lm_X (xj (iv_num h) M) := hR.2.2
  have hc := cw_137 (b := b) (A := A) (h0 := h) (d := 57) (M := iv_num h) (l1 := -2147483648) (u1 := 2147483647) (l2 := -2147483648) (u2 := 2147483647) (l3 := -2147483648) (u3 := 2147483647) (x1 := m1.toInt) (x2 := m2.toInt) (x3 := m3.toInt)
  have hm := fun (h1 : g_H) => ms_axleF (A := A) (h0 := h1) (d := 57) (M := M) (l1 := -2147483648) (u1 := 2147483647) (l2 := -2147483648) (u2 := 2147483647) (l3 := -2147483648) (u3 := 2147483647) (a := m1.toInt) (b := m2.toInt) (c := m3.toInt) (post := fun o M2 => iv_P (lx_ok m1.toInt m2.toInt m3.toInt) 1 _ 0 _ o M2 ∧ xm_Inv M2) hInv (fun o M1 hP hI => ⟨hP, hI⟩)
  refine ⟨[(2, 0, 0, 0, 0), (0, 0, -2147483648, 2147483647, m1.toInt), (0, 0, -2147483648, 2147483647, m2.toInt), (0, 0, -2147483648, 2147483647, m3.toInt)], [(2, 60, 0, 0, 0), (0, 0, -2147483648, 2147483647, m1.toInt), (0, 0, -2147483648, 2147483647, m2.toInt), (0, 0, -2147483648, 2147483647, m3.toInt)], _, _, _, _, _, _, _, ⟨rfl, iv_i m1, iv_i m2, iv_i m3, trivial⟩, ⟨rfl, iv_i m1, iv_i m2, iv_i m3, trivial⟩, hc, hm, fun hok => ⟨?_, fun z => ?_, fun z => ?_⟩, fun hok => ⟨?_, fun z => ?_, fun z => ?_⟩⟩
  · unfold lx_ok at hok
    refine lm_R_X hR (fun q j hC hq hn => ?_) (fun q j hC hq hn => ?_) ?_
    · exact (xa_up_ne (fun e => hn (by obtain ⟨rfl, rfl⟩ := e; unfold lm_XC; first | (simp; done) | (simp; omega) | omega))).trans (xa_up_ne (fun e => hn (by obtain ⟨rfl, rfl⟩ := e; unfold lm_XC; first | (simp; done) | (simp; omega) | omega)))
    · exact (xa_up_ne (fun e => hn (by obtain ⟨rfl, rfl⟩ := e; unfold lm_XC; first | (simp; done) | (simp; omega) | omega))).trans ((xa_up_ne (fun e => hn (by obtain ⟨rfl, rfl⟩ := e; unfold lm_XC; first | (simp; done) | (simp; omega) | omega))).trans (xa_up_ne (by first | (have t9 := lm_Cq hC; omega) | (unfold lm_C at hC; omega))))
    · refine ⟨?_, ?_, ?_, ?_, ?_, ?_, fun i i0 i1 => ?_, fun i i0 i1 => ?_, fun i i0 i1 => ?_, fun i i0 i1 => ?_, fun i i0 i1 => ?_, fun i i0 i1 => ?_, fun i i0 i1 => ?_, fun i i0 i1 => ?_, fun i i0 i1 => ?_, fun i i0 i1 => ?_⟩
      · simp [xj, xa_up]
        exact hX.1
      · simp [xj, xa_up]
        exact hX.2.1
      · simp [xj, xa_up]
        exact hX.2.2.1
      · simp [xj, xa_up]
        exact hX.2.2.2.1
      · simp [xj, xa_up]
        exact hX.2.2.2.2.1
      · simp [xj, xa_up]
        exact hX.2.2.2.2.2.1
      · simp [xj, xa_up]
        exact hX.2.2.2.2.2.2.1 i i0 i1
      · simp [xj, xa_up]
        exact hX.2.2.2.2.2.2.2.1 i i0 i1
      · simp [xj, xa_up]
        exact hX.2.2.2.2.2.2.2.2.1 i i0 i1
      · simp [xj, xa_up]
        exact hX.2.2.2.2.2.2.2.2.2.1 i i0 i1
      · simp [xj, xa_up]
        exact hX.2.2.2.2.2.2.2.2.2.2.1 i i0 i1
      · simp [xj, xa_up]
        exact hX.2.2.2.2.2.2.2.2.2.2.2.1 i i0 i1
      · simp [xj, xa_up]
        exact hX.2.2.2.2.2.2.2.2.2.2.2.2.1 i i0 i1
      · simp [xj, xa_up]
        exact hX.2.2.2.2.2.2.2.2.2.2.2.2.2.1 i i0 i1
      · by_cases e : i = m1.toInt
        · simp [xj, xa_up, e]
        · simp [xj, xa_up, e]
          exact hX.2.2.2.2.2.2.2.2.2.2.2.2.2.2.1 i i0 i1
      · by_cases e : i = m1.toInt
        · simp [xj, xa_up, e]
        · simp [xj, xa_up, e]
          exact hX.2.2.2.2.2.2.2.2.2.2.2.2.2.2.2 i i0 i1
  · simp [xa_up]
  · simp [xa_up]
  · refine lm_R_k (fun q j hC => ?_) hR
    unfold xj
    by_cases hq : q < 60
    · rw [if_pos hq, if_pos hq]
    · rw [if_neg hq, if_neg hq]
      exact xa_up_ne (by first | (have t9 := lm_Cq hC; omega) | (unfold lm_C at hC; omega))
  · simp [xa_up]
  · simp [xa_up])
