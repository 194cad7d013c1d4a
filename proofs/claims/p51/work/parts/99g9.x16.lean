-- the shop: what it sells (made by wip/u/mkfl.py)
set_option maxRecDepth 20000
def ls_ok (a b : Int) : Prop := 10 ≤ a ∧ a ≤ b ∧ b ≤ 400 ∧ xa_w32 (b - a) ≤ 200
theorem cx_121_0 {b : Bool} {A : Nat → Nat} {h0 : g_H} {d : Nat} {M : xa_M} {post : Option xa_V → xa_M → Prop} {l1 u1 l2 u2 : Int} {x1 x2 : Int} (k1 : (x1 < 10) → post (some (0, 0, 0, 0, 0)) M) (k2 : (10 ≤ x1) → (400 < x2) → post (some (0, 0, 0, 0, 0)) M) (k3 : (10 ≤ x1) → (x2 ≤ 400) → (x2 < x1) → post (some (0, 0, 0, 0, 0)) M) (k4 : (10 ≤ x1) → (x2 ≤ 400) → (x1 ≤ x2) → ((xa_w32 (x2 - x1)) ≤ 200) → post (some (0, 0, 1, 1, 1)) (xa_up (xa_up M 32 0 x1) 32 1 x2)) (k5 : (10 ≤ x1) → (x2 ≤ 400) → (x1 ≤ x2) → (200 < (xa_w32 (x2 - x1))) → post (some (0, 0, 0, 0, 0)) M) : xa_C (xl_I b) A h0 (d + 2) 121 [(2, 0, 0, 0, 0), (0, 0, l1, u1, x1), (0, 0, l2, u2, x2)] M post := by
  refine xa_C_arg [(2, 0, 0, 0, 0), (0, 0, (-2147483648), 2147483647, x1), (0, 0, (-2147483648), 2147483647, x2)] (xa_svR (xa_svI (fun _ _ _ _ => by omega) (xa_svI (fun _ _ _ _ => by omega) (xa_sv0)))) ?_
  refine xa_meth (Q0 := (3, 2, false, 0, 0, 11)) (by decide +kernel) ⟨rfl, rfl⟩ (full := s_c_121) rfl rfl ?_
  intro hM hv Q hgo
  refine hgo.1 23 [] 0 _ _ _ ?_
  show xa_C (xl_I b) A h0 _ 13 [(0, 0, (-2147483648), 2147483647, x1), (0, 0, (-2147483648), 2147483647, x2)] M _
  refine cx_13 ?_ ?_ ?_ ?_
  · intro (i1 : x1 < 10)
    show post (some (0, 0, 0, 0, 0)) M
    exact k1 i1
  · intro (i2 : 10 ≤ x1) (i3 : 400 < x2)
    show post (some (0, 0, 0, 0, 0)) M
    exact k2 i2 i3
  · intro (i4 : 10 ≤ x1) (i5 : x2 ≤ 400) (i6 : x2 < x1)
    show post (some (0, 0, 0, 0, 0)) M
    exact k3 i4 i5 i6
  · intro (i7 : 10 ≤ x1) (i8 : x2 ≤ 400) (i9 : x1 ≤ x2)
    refine And.intro ?_ ?_
    · intro (c10 : (xa_w32 (x2 - x1)) ≤ 200)
      refine And.intro (show 10 ≤ x1 ∧ x1 ≤ 400 by omega) ?_
      refine And.intro (show 10 ≤ x2 ∧ x2 ≤ 400 by omega) ?_
      show post (some (0, 0, 1, 1, 1)) (xa_up (xa_up M 32 0 x1) 32 1 x2)
      exact k4 i7 i8 i9 c10
    · intro (c10 : 200 < (xa_w32 (x2 - x1)))
      show post (some (0, 0, 0, 0, 0)) M
      exact k5 i7 i8 i9 c10
theorem cw_121 {b : Bool} {A : Nat → Nat} {h0 : g_H} {d : Nat} {M : xa_M} {l1 u1 l2 u2 : Int} {x1 x2 : Int} : xa_C (xl_I b) A h0 (d + 2) 121 [(2, 0, 0, 0, 0), (0, 0, l1, u1, x1), (0, 0, l2, u2, x2)] M (iv_P (ls_ok x1 x2) 1 (xa_up (xa_up M 32 0 x1) 32 1 x2) 0 M) := by
  refine cx_121_0 ?_ ?_ ?_ ?_ ?_
  all_goals intros
  all_goals first
    | exact Or.inr ⟨by unfold ls_ok; omega, ⟨_, _, rfl⟩, rfl⟩
    | exact Or.inl ⟨by unfold ls_ok; omega, ⟨_, _, rfl⟩, rfl⟩
theorem ms_shopX {A : Nat → Nat} {h0 : g_H} {d : Nat} {M : xa_M} {post : Option xa_V → xa_M → Prop} {l1 u1 l2 u2 : Int} {a b : Int} (hI : xm_Inv M) (k : ∀ (o : Option xa_V) (M1 : xa_M), iv_P (ls_ok a b) 1 (xa_up (xa_up (xa_up M 60 21 0) 60 15 a) 60 16 b) 0 (xa_up M 60 21 0) o M1 → xm_Inv M1 → post o M1) : xa_C xm_I A h0 (d + 2) 256 [(2, 60, 0, 0, 0), (0, 0, l1, u1, a), (0, 0, l2, u2, b)] M post := by
  refine xa_C_arg [(2, 60, 0, 0, 0), (0, 0, (-2147483648), 2147483647, a), (0, 0, (-2147483648), 2147483647, b)] (xa_svR (xa_svI (fun _ _ _ _ => by omega) (xa_svI (fun _ _ _ _ => by omega) xa_sv0))) ?_
  refine xa_meth (Q0 := (3, 2, false, 0, 0, 12)) (by decide +kernel) ⟨rfl, rfl⟩ (full := s_c_256) rfl rfl ?_
  intro hM hv Q hgo
  have b0 := xm_f0 hM
  have b6 := xm_f6 hM
  refine hgo.1 30 [] 0 _ _ _ ?_
  show xa_C xm_I A h0 _ 214 [(0, 0, (-2147483648), 2147483647, a), (0, 0, 10, 10, 10), (0, 0, 400, 400, 400)] (xa_up M 60 21 0) _
  refine ct_in ?_ ?_
  · intro (i1 : 10 ≤ a ∧ a ≤ 400)
    show xa_C xm_I A h0 _ 214 [(0, 0, (-2147483648), 2147483647, b), (0, 0, (-2147483648), 2147483647, a), (0, 0, 400, 400, 400)] (xa_up M 60 21 0) _
    refine ct_in ?_ ?_
    · intro (i2 : a ≤ b ∧ b ≤ 400)
      refine And.intro ?_ ?_
      · intro (c3 : (xa_w32 (b - a)) ≤ 200)
        refine And.intro (show 10 ≤ a ∧ a ≤ 400 by omega) ?_
        refine And.intro (show 10 ≤ b ∧ b ≤ 400 by omega) ?_
        show post (some (0, 0, 1, 1, 1)) (xa_up (xa_up (xa_up M 60 21 0) 60 15 a) 60 16 b)
        refine k _ _ (by first | exact Or.inr ⟨by unfold ls_ok; omega, ⟨_, _, rfl⟩, rfl⟩ | exact Or.inl ⟨by unfold ls_ok; omega, ⟨_, _, rfl⟩, rfl⟩) (xm_Inv_b (M := M) (fun j => by simp [xa_up]) (fun j => by simp [xa_up]) hI (fun w w0 w1 => ?_) (fun m m0 m1 => ?_) (fun p p0 p1 => ?_) ?_)
        · have h := hI.1 w w0 (by simp [xa_up] at w1; omega)
          simp [xa_up]
          exact h
        · have h := hI.2.1 m m0 (by simp [xa_up] at m1; omega)
          simp [xa_up]
          exact h
        · have h := hI.2.2.1 p p0 (by simp [xa_up] at p1; omega)
          simp [xa_up]
          exact h
        · simp [xa_up]
          omega
      · intro (c3 : 200 < (xa_w32 (b - a)))
        show post (some (0, 0, 0, 0, 0)) (xa_up M 60 21 0)
        exact k _ _ (by first | exact Or.inr ⟨by unfold ls_ok; omega, ⟨_, _, rfl⟩, rfl⟩ | exact Or.inl ⟨by unfold ls_ok; omega, ⟨_, _, rfl⟩, rfl⟩) (xm_Inv_cor (xm_cor_f (by omega) xm_cor_r) hI)
    · intro (i2 : ¬ (a ≤ b ∧ b ≤ 400))
      show post (some (0, 0, 0, 0, 0)) (xa_up M 60 21 0)
      exact k _ _ (by first | exact Or.inr ⟨by unfold ls_ok; omega, ⟨_, _, rfl⟩, rfl⟩ | exact Or.inl ⟨by unfold ls_ok; omega, ⟨_, _, rfl⟩, rfl⟩) (xm_Inv_cor (xm_cor_f (by omega) xm_cor_r) hI)
  · intro (i1 : ¬ (10 ≤ a ∧ a ≤ 400))
    show post (some (0, 0, 0, 0, 0)) (xa_up M 60 21 0)
    exact k _ _ (by first | exact Or.inr ⟨by unfold ls_ok; omega, ⟨_, _, rfl⟩, rfl⟩ | exact Or.inl ⟨by unfold ls_ok; omega, ⟨_, _, rfl⟩, rfl⟩) (xm_Inv_cor (xm_cor_f (by omega) xm_cor_r) hI)
theorem iv_p121 (A : Nat → Nat) (cmp : Bool) : iv_pair (iv_J A) A 121 256 [0, 0] cmp false := iv_armP (fun W b h as M hJ hM hInv hs hR => by
  obtain ⟨m1, ys, rfl, -, hs⟩ := iv_spc hs
  obtain ⟨m2, ys, rfl, -, hs⟩ := iv_spc hs
  obtain rfl := iv_sp0 hs
  have hX : lm_X (xj (iv_num h) M) := hR.2.2
  have hc := cw_121 (b := b) (A := A) (h0 := h) (d := 58) (M := iv_num h) (l1 := -2147483648) (u1 := 2147483647) (l2 := -2147483648) (u2 := 2147483647) (x1 := m1.toInt) (x2 := m2.toInt)
  have hm := fun (h1 : g_H) => ms_shopX (A := A) (h0 := h1) (d := 58) (M := M) (l1 := -2147483648) (u1 := 2147483647) (l2 := -2147483648) (u2 := 2147483647) (a := m1.toInt) (b := m2.toInt) (post := fun o M2 => iv_P (ls_ok m1.toInt m2.toInt) 1 _ 0 _ o M2 ∧ xm_Inv M2) hInv (fun o M1 hP hI => ⟨hP, hI⟩)
  refine ⟨[(2, 0, 0, 0, 0), (0, 0, -2147483648, 2147483647, m1.toInt), (0, 0, -2147483648, 2147483647, m2.toInt)], [(2, 60, 0, 0, 0), (0, 0, -2147483648, 2147483647, m1.toInt), (0, 0, -2147483648, 2147483647, m2.toInt)], _, _, _, _, _, _, _, ⟨rfl, iv_i m1, iv_i m2, trivial⟩, ⟨rfl, iv_i m1, iv_i m2, trivial⟩, hc, hm, fun hok => ⟨?_, fun z => ?_, fun z => ?_⟩, fun hok => ⟨?_, fun z => ?_, fun z => ?_⟩⟩
  · unfold ls_ok at hok
    refine lm_R_X hR (fun q j hC hq hn => ?_) (fun q j hC hq hn => ?_) ?_
    · exact (xa_up_ne (fun e => hn (by obtain ⟨rfl, rfl⟩ := e; unfold lm_XC; first | (simp; done) | (simp; omega) | omega))).trans (xa_up_ne (fun e => hn (by obtain ⟨rfl, rfl⟩ := e; unfold lm_XC; first | (simp; done) | (simp; omega) | omega)))
    · exact (xa_up_ne (fun e => hn (by obtain ⟨rfl, rfl⟩ := e; unfold lm_XC; first | (simp; done) | (simp; omega) | omega))).trans ((xa_up_ne (fun e => hn (by obtain ⟨rfl, rfl⟩ := e; unfold lm_XC; first | (simp; done) | (simp; omega) | omega))).trans (xa_up_ne (by first | (have t9 := lm_Cq hC; omega) | (unfold lm_C at hC; omega))))
    · refine ⟨?_, ?_, ?_, ?_, ?_, ?_, fun i i0 i1 => ?_, fun i i0 i1 => ?_, fun i i0 i1 => ?_, fun i i0 i1 => ?_, fun i i0 i1 => ?_, fun i i0 i1 => ?_, fun i i0 i1 => ?_, fun i i0 i1 => ?_, fun i i0 i1 => ?_, fun i i0 i1 => ?_⟩
      · simp [xj, xa_up]
      · simp [xj, xa_up]
      · simp [xj, xa_up]
        exact hX.2.2.1
      · simp [xj, xa_up]
        exact hX.2.2.2.1
      · simp [xj, xa_up]
        exact hX.2.2.2.2.1
      · simp [xj, xa_up]
        exact hX.2.2.2.2.2.1
      · simp [xj, xa_up]
        exact hX.2.2.2.2.2.2.1 i i0 i1
      · simp [xj, xa_up]
        exact hX.2.2.2.2.2.2.2.1 i i0 i1
      · simp [xj, xa_up]
        exact hX.2.2.2.2.2.2.2.2.1 i i0 i1
      · simp [xj, xa_up]
        exact hX.2.2.2.2.2.2.2.2.2.1 i i0 i1
      · simp [xj, xa_up]
        exact hX.2.2.2.2.2.2.2.2.2.2.1 i i0 i1
      · simp [xj, xa_up]
        exact hX.2.2.2.2.2.2.2.2.2.2.2.1 i i0 i1
      · simp [xj, xa_up]
        exact hX.2.2.2.2.2.2.2.2.2.2.2.2.1 i i0 i1
      · simp [xj, xa_up]
        exact hX.2.2.2.2.2.2.2.2.2.2.2.2.2.1 i i0 i1
      · simp [xj, xa_up]
        exact hX.2.2.2.2.2.2.2.2.2.2.2.2.2.2.1 i i0 i1
      · simp [xj, xa_up]
        exact hX.2.2.2.2.2.2.2.2.2.2.2.2.2.2.2 i i0 i1
  · simp [xa_up]
  · simp [xa_up]
  · refine lm_R_k (fun q j hC => ?_) hR
    unfold xj
    by_cases hq : q < 60
    · rw [if_pos hq, if_pos hq]
    · rw [if_neg hq, if_neg hq]
      exact xa_up_ne (by first | (have t9 := lm_Cq hC; omega) | (unfold lm_C at hC; omega))
  · simp [xa_up]
  · simp [xa_up])
