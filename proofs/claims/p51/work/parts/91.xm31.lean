-- sign, end, axle, uneven, names, dial, seen, games, wrong, year, left, count of the model (made by wip/p24/xa/xm31.py)
set_option maxRecDepth 20000
/-- the cells of which the invariant speaks -/
def xm_icB (q : Nat) (j : Int) : Bool := (Nat.beq q 61 || (Nat.beq q 62 || (Nat.beq q 63 || (Nat.beq q 66 || (Nat.beq q 67 || (Nat.beq q 70 || (Nat.beq q 71 || (Nat.beq q 104 || Nat.beq q 105)))))))) || (Nat.beq q 60 && (decide (j = 0) || (decide (j = 6) || (decide (j = 11) || (decide (j = 15) || decide (j = 16))))))
def xm_is (M M1 : xa_M) : Prop := ∀ q j, xm_icB q j = true → M1 q j = M q j
theorem xm_is_r {M : xa_M} : xm_is M M := fun _ _ _ => rfl
theorem xm_is_t {M M1 M2 : xa_M} (h : xm_is M M1) (h2 : xm_is M1 M2) : xm_is M M2 := fun q j hq => (h2 q j hq).trans (h q j hq)
theorem xm_is_u {M M1 : xa_M} {q : Nat} {j v : Int} (hq : xm_icB q j = false) (h : xm_is M M1) : xm_is M (xa_up M1 q j v) := by
  intro q2 j2 h2
  rw [xa_up_ne (fun e => by rw [e.1, e.2, hq] at h2; cases h2)]
  exact h q2 j2 h2
theorem xm_is_c {M M1 : xa_M} (h : xm_cor M M1) : xm_is M M1 := by
  intro q j hq
  refine h q j (fun hs => ?_)
  unfold xm_icB at hq
  simp only [Bool.or_eq_true, Bool.and_eq_true, Nat.beq_eq, decide_eq_true_eq] at hq
  unfold xm_scr at hs
  omega
theorem xm_Inv_is {M M1 : xa_M} (h : xm_is M M1) (hI : xm_Inv M) : xm_Inv M1 := by
  have e0 : M1 60 0 = M 60 0 := h 60 0 rfl
  have e6 : M1 60 6 = M 60 6 := h 60 6 rfl
  have e11 : M1 60 11 = M 60 11 := h 60 11 rfl
  have e15 : M1 60 15 = M 60 15 := h 60 15 rfl
  have e16 : M1 60 16 = M 60 16 := h 60 16 rfl
  have a61 : ∀ j, M1 61 j = M 61 j := fun j => h 61 j rfl
  have a62 : ∀ j, M1 62 j = M 62 j := fun j => h 62 j rfl
  have a63 : ∀ j, M1 63 j = M 63 j := fun j => h 63 j rfl
  have a66 : ∀ j, M1 66 j = M 66 j := fun j => h 66 j rfl
  have a67 : ∀ j, M1 67 j = M 67 j := fun j => h 67 j rfl
  have a70 : ∀ j, M1 70 j = M 70 j := fun j => h 70 j rfl
  have a71 : ∀ j, M1 71 j = M 71 j := fun j => h 71 j rfl
  have a104 : ∀ j, M1 104 j = M 104 j := fun j => h 104 j rfl
  have a105 : ∀ j, M1 105 j = M 105 j := fun j => h 105 j rfl
  obtain ⟨h1, h2, h3, h4, h5⟩ := hI
  refine ⟨fun w w0 w1 => ?_, fun m m0 m1 => ?_, fun p p0 p1 => ?_, ?_, fun i i0 i1 i2 => ?_⟩
  · rw [a61, a62, a63]
    exact h1 w w0 (by omega)
  · rw [a66, a67, e0]
    exact h2 m m0 (by omega)
  · rw [a70, a71]
    exact h3 p p0 (by omega)
  · omega
  · rw [a105] at i2
    have := h5 i i0 i1 i2
    unfold xm_bld at this ⊢
    simp only [a104]
    exact this
theorem ms_end {A : Nat → Nat} {h0 : g_H} {d : Nat} {M : xa_M} {post : Option xa_V → xa_M → Prop} {l1 u1 : Int} {a : Int} (hI : xm_Inv M) (k : ∀ (o : Option xa_V) (M1 : xa_M), xm_Inv M1 → post o M1) : xa_C xm_I A h0 (d + 2) 251 [(2, 60, 0, 0, 0), (0, 0, l1, u1, a)] M post := by
  refine xa_C_arg [(2, 60, 0, 0, 0), (0, 0, (-2147483648), 2147483647, a)] (xa_svR (xa_svI (fun _ _ _ _ => by omega) xa_sv0)) ?_
  refine xa_meth (Q0 := (2, 2, false, 0, 0, 12)) (by decide +kernel) ⟨rfl, rfl⟩ (full := s_c_251) rfl rfl ?_
  intro hM hv Q hgo
  have b18 := xm_f18 hM
  refine hgo.1 18 [] 0 _ _ _ ?_
  show xa_C xm_I A h0 _ 214 [(0, 0, (-2147483648), 2147483647, a), (0, 0, 0, 0, 0), (0, 0, 0, 80, M 60 18)] (xa_up M 60 21 0) _
  refine ct_in ?_ ?_
  · intro (i1 : 0 ≤ a ∧ a ≤ (M 60 18))
    refine And.intro (show 0 ≤ a ∧ a ≤ 80 by omega) ?_
    show post (some (0, 0, 1, 1, 1)) (xa_up (xa_up M 60 21 0) 60 18 a)
    exact k _ _ (xm_Inv_is (xm_is_u rfl (xm_is_u rfl xm_is_r)) hI)
  · intro (i1 : ¬ (0 ≤ a ∧ a ≤ (M 60 18)))
    show post (some (0, 0, 0, 0, 0)) (xa_up M 60 21 0)
    exact k _ _ (xm_Inv_is (xm_is_u rfl xm_is_r) hI)
theorem ms_axle {A : Nat → Nat} {h0 : g_H} {d : Nat} {M : xa_M} {post : Option xa_V → xa_M → Prop} {l1 u1 l2 u2 l3 u3 : Int} {a b c : Int} (hI : xm_Inv M) (k : ∀ (o : Option xa_V) (M1 : xa_M), xm_Inv M1 → post o M1) : xa_C xm_I A h0 (d + 3) 262 [(2, 60, 0, 0, 0), (0, 0, l1, u1, a), (0, 0, l2, u2, b), (0, 0, l3, u3, c)] M post := by
  refine xa_C_arg [(2, 60, 0, 0, 0), (0, 0, (-2147483648), 2147483647, a), (0, 0, (-2147483648), 2147483647, b), (0, 0, (-2147483648), 2147483647, c)] (xa_svR (xa_svI (fun _ _ _ _ => by omega) (xa_svI (fun _ _ _ _ => by omega) (xa_svI (fun _ _ _ _ => by omega) xa_sv0)))) ?_
  refine xa_meth (Q0 := (4, 2, false, 0, 0, 12)) (by decide +kernel) ⟨rfl, rfl⟩ (full := s_c_262) rfl rfl ?_
  intro hM hv Q hgo
  refine hgo.1 32 [] 0 _ _ _ ?_
  show xa_C xm_I A h0 _ 215 [(0, 0, (-2147483648), 2147483647, a)] (xa_up M 60 21 0) _
  refine ct_isAxle ?_ ?_
  · intro (i1 : 0 ≤ a ∧ a ≤ 9)
    show xa_C xm_I A h0 _ 214 [(0, 0, (-2147483648), 2147483647, b), (0, 0, (-500), (-500), (-500)), (0, 0, 500, 500, 500)] (xa_up M 60 21 0) _
    refine ct_in ?_ ?_
    · intro (i2 : (-500) ≤ b ∧ b ≤ 500)
      show xa_C xm_I A h0 _ 214 [(0, 0, (-2147483648), 2147483647, c), (0, 0, (-500), (-500), (-500)), (0, 0, 500, 500, 500)] (xa_up M 60 21 0) _
      refine ct_in ?_ ?_
      · intro (i3 : (-500) ≤ c ∧ c ≤ 500)
        refine And.intro (show 0 ≤ a ∧ a < 10 by omega) ?_
        refine And.intro (show (-500) ≤ b ∧ b ≤ 500 by omega) ?_
        refine And.intro (show 0 ≤ a ∧ a < 10 by omega) ?_
        refine And.intro (show (-500) ≤ c ∧ c ≤ 500 by omega) ?_
        show post (some (0, 0, 1, 1, 1)) (xa_up (xa_up (xa_up M 60 21 0) 68 a b) 69 a c)
        exact k _ _ (xm_Inv_is (xm_is_u rfl (xm_is_u rfl (xm_is_u rfl xm_is_r))) hI)
      · intro (i3 : ¬ ((-500) ≤ c ∧ c ≤ 500))
        show post (some (0, 0, 0, 0, 0)) (xa_up M 60 21 0)
        exact k _ _ (xm_Inv_is (xm_is_u rfl xm_is_r) hI)
    · intro (i2 : ¬ ((-500) ≤ b ∧ b ≤ 500))
      show post (some (0, 0, 0, 0, 0)) (xa_up M 60 21 0)
      exact k _ _ (xm_Inv_is (xm_is_u rfl xm_is_r) hI)
  · intro (i1 : ¬ (0 ≤ a ∧ a ≤ 9))
    show post (some (0, 0, 0, 0, 0)) (xa_up M 60 21 0)
    exact k _ _ (xm_Inv_is (xm_is_u rfl xm_is_r) hI)
theorem ms_dial {A : Nat → Nat} {h0 : g_H} {d : Nat} {M : xa_M} {post : Option xa_V → xa_M → Prop} {l1 u1 l2 u2 : Int} {a b : Int} (hb : 0 ≤ b ∧ b ≤ 1) (hI : xm_Inv M) (k : ∀ (o : Option xa_V) (M1 : xa_M), xm_Inv M1 → post o M1) : xa_C xm_I A h0 (d + 2) 283 [(2, 60, 0, 0, 0), (0, 0, l1, u1, a), (0, 0, l2, u2, b)] M post := by
  refine xa_C_arg [(2, 60, 0, 0, 0), (0, 0, (-2147483648), 2147483647, a), (0, 0, (-2147483648), 2147483647, b)] (xa_svR (xa_svI (fun _ _ _ _ => by omega) (xa_svI (fun _ _ _ _ => by omega) xa_sv0))) ?_
  refine xa_meth (Q0 := (3, 1, false, 0, 0, 12)) (by decide +kernel) ⟨rfl, rfl⟩ (full := s_c_283) rfl rfl ?_
  intro hM hv Q hgo
  refine hgo.1 37 [] 0 _ _ _ ?_
  show xa_C xm_I A h0 _ 214 [(0, 0, (-2147483648), 2147483647, a), (0, 0, 0, 0, 0), (0, 0, 222, 222, 222)] (xa_up M 60 21 0) _
  refine ct_in ?_ ?_
  · intro (i1 : 0 ≤ a ∧ a ≤ 222)
    refine And.intro ?_ ?_
    · intro (c2 : b = 0)
      refine And.intro (show 0 ≤ a ∧ a < 223 by omega) ?_
      refine And.intro ?_ ?_
      · intro (c3 : (M 96 a) = 0)
        refine And.intro (show 0 ≤ a ∧ a < 223 by omega) ?_
        refine And.intro (show 0 ≤ b ∧ b ≤ 1 by omega) ?_
        show post (some (0, 0, (-2147483648), 2147483647, (M 60 55) + (0 - 0))) (xa_up (xa_up (xa_up M 60 21 0) 60 55 ((M 60 55) + (0 - 0))) 96 a b)
        exact k _ _ (xm_Inv_is (xm_is_u rfl (xm_is_u rfl (xm_is_u rfl xm_is_r))) hI)
      · intro (c3 : ¬ (M 96 a) = 0)
        refine And.intro (show 0 ≤ a ∧ a < 223 by omega) ?_
        refine And.intro (show 0 ≤ b ∧ b ≤ 1 by omega) ?_
        show post (some (0, 0, (-2147483648), 2147483647, xa_w32 ((M 60 55) + (0 - 1)))) (xa_up (xa_up (xa_up M 60 21 0) 60 55 (xa_w32 ((M 60 55) + (0 - 1)))) 96 a b)
        exact k _ _ (xm_Inv_is (xm_is_u rfl (xm_is_u rfl (xm_is_u rfl xm_is_r))) hI)
    · intro (c2 : ¬ b = 0)
      refine And.intro (show 0 ≤ a ∧ a < 223 by omega) ?_
      refine And.intro ?_ ?_
      · intro (c4 : (M 96 a) = 0)
        refine And.intro (show 0 ≤ a ∧ a < 223 by omega) ?_
        refine And.intro (show 0 ≤ b ∧ b ≤ 1 by omega) ?_
        show post (some (0, 0, (-2147483648), 2147483647, xa_w32 ((M 60 55) + (1 - 0)))) (xa_up (xa_up (xa_up M 60 21 0) 60 55 (xa_w32 ((M 60 55) + (1 - 0)))) 96 a b)
        exact k _ _ (xm_Inv_is (xm_is_u rfl (xm_is_u rfl (xm_is_u rfl xm_is_r))) hI)
      · intro (c4 : ¬ (M 96 a) = 0)
        refine And.intro (show 0 ≤ a ∧ a < 223 by omega) ?_
        refine And.intro (show 0 ≤ b ∧ b ≤ 1 by omega) ?_
        show post (some (0, 0, (-2147483648), 2147483647, (M 60 55) + (1 - 1))) (xa_up (xa_up (xa_up M 60 21 0) 60 55 ((M 60 55) + (1 - 1))) 96 a b)
        exact k _ _ (xm_Inv_is (xm_is_u rfl (xm_is_u rfl (xm_is_u rfl xm_is_r))) hI)
  · intro (i1 : ¬ (0 ≤ a ∧ a ≤ 222))
    show post (some (0, 0, (-1), (-1), (-1))) (xa_up M 60 21 0)
    exact k _ _ (xm_Inv_is (xm_is_u rfl xm_is_r) hI)
theorem ms_seen {A : Nat → Nat} {h0 : g_H} {d : Nat} {M : xa_M} {post : Option xa_V → xa_M → Prop} {l1 u1 l2 u2 : Int} {a b : Int} (hb : 0 ≤ b ∧ b ≤ 1) (hI : xm_Inv M) (k : ∀ (o : Option xa_V) (M1 : xa_M), xm_Inv M1 → post o M1) : xa_C xm_I A h0 (d + 2) 284 [(2, 60, 0, 0, 0), (0, 0, l1, u1, a), (0, 0, l2, u2, b)] M post := by
  refine xa_C_arg [(2, 60, 0, 0, 0), (0, 0, (-2147483648), 2147483647, a), (0, 0, (-2147483648), 2147483647, b)] (xa_svR (xa_svI (fun _ _ _ _ => by omega) (xa_svI (fun _ _ _ _ => by omega) xa_sv0))) ?_
  refine xa_meth (Q0 := (3, 1, false, 0, 0, 12)) (by decide +kernel) ⟨rfl, rfl⟩ (full := s_c_284) rfl rfl ?_
  intro hM hv Q hgo
  have b56 := xm_f56 hM
  refine hgo.1 37 [] 0 _ _ _ ?_
  show xa_C xm_I A h0 _ 214 [(0, 0, (-2147483648), 2147483647, a), (0, 0, 0, 0, 0), (0, 0, 9999, 9999, 9999)] (xa_up M 60 21 0) _
  refine ct_in ?_ ?_
  · intro (i1 : 0 ≤ a ∧ a ≤ 9999)
    refine And.intro ?_ ?_
    · intro (c2 : ¬ (M 60 56) = 20)
      refine And.intro (show 0 ≤ (M 60 56) ∧ (M 60 56) < 20 by omega) ?_
      refine And.intro (show 0 ≤ a ∧ a ≤ 9999 by omega) ?_
      refine And.intro (show 0 ≤ (M 60 56) ∧ (M 60 56) < 20 by omega) ?_
      refine And.intro (show 0 ≤ b ∧ b ≤ 1 by omega) ?_
      refine And.intro (show 0 ≤ ((M 60 56) + 1) ∧ ((M 60 56) + 1) ≤ 20 by omega) ?_
      show post (some (0, 0, 0, 20, (M 60 56) + 1)) (xa_up (xa_up (xa_up (xa_up M 60 21 0) 97 (M 60 56) a) 98 (M 60 56) b) 60 56 ((M 60 56) + 1))
      exact k _ _ (xm_Inv_is (xm_is_u rfl (xm_is_u rfl (xm_is_u rfl (xm_is_u rfl xm_is_r)))) hI)
    · intro (c2 : (M 60 56) = 20)
      show post (some (0, 0, (-1), (-1), (-1))) (xa_up M 60 21 0)
      exact k _ _ (xm_Inv_is (xm_is_u rfl xm_is_r) hI)
  · intro (i1 : ¬ (0 ≤ a ∧ a ≤ 9999))
    show post (some (0, 0, (-1), (-1), (-1))) (xa_up M 60 21 0)
    exact k _ _ (xm_Inv_is (xm_is_u rfl xm_is_r) hI)
theorem ms_games {A : Nat → Nat} {h0 : g_H} {d : Nat} {M : xa_M} {post : Option xa_V → xa_M → Prop} {l1 u1 : Int} {a : Int} (hI : xm_Inv M) (k : ∀ (o : Option xa_V) (M1 : xa_M), xm_Inv M1 → post o M1) : xa_C xm_I A h0 (d + 2) 285 [(2, 60, 0, 0, 0), (0, 0, l1, u1, a)] M post := by
  refine xa_C_arg [(2, 60, 0, 0, 0), (0, 0, (-2147483648), 2147483647, a)] (xa_svR (xa_svI (fun _ _ _ _ => by omega) xa_sv0)) ?_
  refine xa_meth (Q0 := (2, 1, false, 0, 0, 12)) (by decide +kernel) ⟨rfl, rfl⟩ (full := s_c_285) rfl rfl ?_
  intro hM hv Q hgo
  have b59 := xm_f59 hM
  refine hgo.1 31 [] 0 _ _ _ ?_
  show xa_C xm_I A h0 _ 214 [(0, 0, (-2147483648), 2147483647, a), (0, 0, 0, 0, 0), (0, 0, 999, 999, 999)] (xa_up M 60 21 0) _
  refine ct_in ?_ ?_
  · intro (i1 : 0 ≤ a ∧ a ≤ 999)
    refine And.intro ?_ ?_
    · intro (c2 : ¬ (M 60 59) = 8)
      refine And.intro (show 0 ≤ (M 60 59) ∧ (M 60 59) < 8 by omega) ?_
      refine And.intro (show 0 ≤ a ∧ a ≤ 999 by omega) ?_
      refine And.intro (show 0 ≤ ((M 60 59) + 1) ∧ ((M 60 59) + 1) ≤ 8 by omega) ?_
      show post (some (0, 0, 0, 8, (M 60 59) + 1)) (xa_up (xa_up (xa_up M 60 21 0) 99 (M 60 59) a) 60 59 ((M 60 59) + 1))
      exact k _ _ (xm_Inv_is (xm_is_u rfl (xm_is_u rfl (xm_is_u rfl xm_is_r))) hI)
    · intro (c2 : (M 60 59) = 8)
      show post (some (0, 0, (-1), (-1), (-1))) (xa_up M 60 21 0)
      exact k _ _ (xm_Inv_is (xm_is_u rfl xm_is_r) hI)
  · intro (i1 : ¬ (0 ≤ a ∧ a ≤ 999))
    show post (some (0, 0, (-1), (-1), (-1))) (xa_up M 60 21 0)
    exact k _ _ (xm_Inv_is (xm_is_u rfl xm_is_r) hI)
theorem ms_left {A : Nat → Nat} {h0 : g_H} {d : Nat} {M : xa_M} {post : Option xa_V → xa_M → Prop} {l1 u1 l2 u2 l3 u3 l4 u4 : Int} {a b c e : Int} (hI : xm_Inv M) (k : ∀ (o : Option xa_V) (M1 : xa_M), xm_Inv M1 → post o M1) : xa_C xm_I A h0 (d + 3) 290 [(2, 60, 0, 0, 0), (0, 0, l1, u1, a), (0, 0, l2, u2, b), (0, 0, l3, u3, c), (0, 0, l4, u4, e)] M post := by
  refine xa_C_arg [(2, 60, 0, 0, 0), (0, 0, (-2147483648), 2147483647, a), (0, 0, (-2147483648), 2147483647, b), (0, 0, (-2147483648), 2147483647, c), (0, 0, (-2147483648), 2147483647, e)] (xa_svR (xa_svI (fun _ _ _ _ => by omega) (xa_svI (fun _ _ _ _ => by omega) (xa_svI (fun _ _ _ _ => by omega) (xa_svI (fun _ _ _ _ => by omega) xa_sv0))))) ?_
  refine xa_meth (Q0 := (5, 1, false, 0, 0, 12)) (by decide +kernel) ⟨rfl, rfl⟩ (full := s_c_290) rfl rfl ?_
  intro hM hv Q hgo
  have b61 := xm_f61 hM
  refine hgo.1 64 [] 0 _ _ _ ?_
  show xa_C xm_I A h0 _ 215 [(0, 0, (-2147483648), 2147483647, a)] (xa_up M 60 21 0) _
  refine ct_isAxle ?_ ?_
  · intro (i1 : 0 ≤ a ∧ a ≤ 9)
    show xa_C xm_I A h0 _ 214 [(0, 0, (-2147483648), 2147483647, b), (0, 0, 0, 0, 0), (0, 0, 9, 9, 9)] (xa_up M 60 21 0) _
    refine ct_in ?_ ?_
    · intro (i2 : 0 ≤ b ∧ b ≤ 9)
      show xa_C xm_I A h0 _ 214 [(0, 0, (-2147483648), 2147483647, c), (0, 0, 10, 10, 10), (0, 0, 400, 400, 400)] (xa_up M 60 21 0) _
      refine ct_in ?_ ?_
      · intro (i3 : 10 ≤ c ∧ c ≤ 400)
        show xa_C xm_I A h0 _ 214 [(0, 0, (-2147483648), 2147483647, e), (0, 0, (-2147483648), 2147483647, c), (0, 0, 400, 400, 400)] (xa_up M 60 21 0) _
        refine ct_in ?_ ?_
        · intro (i4 : c ≤ e ∧ e ≤ 400)
          refine And.intro ?_ ?_
          · intro (c5 : ¬ (M 60 61) = 12)
            refine And.intro (show 0 ≤ (M 60 61) ∧ (M 60 61) < 12 by omega) ?_
            refine And.intro (show 0 ≤ (M 60 61) ∧ (M 60 61) < 12 by omega) ?_
            refine And.intro (show 0 ≤ (M 60 61) ∧ (M 60 61) < 12 by omega) ?_
            refine And.intro (show 0 ≤ (M 60 61) ∧ (M 60 61) < 12 by omega) ?_
            refine And.intro (show 0 ≤ ((M 60 61) + 1) ∧ ((M 60 61) + 1) ≤ 12 by omega) ?_
            show post (some (0, 0, (-1), 11, ((M 60 61) + 1) - 1)) (xa_up (xa_up (xa_up (xa_up (xa_up (xa_up M 60 21 0) 100 (M 60 61) a) 101 (M 60 61) b) 102 (M 60 61) c) 103 (M 60 61) e) 60 61 ((M 60 61) + 1))
            exact k _ _ (xm_Inv_is (xm_is_u rfl (xm_is_u rfl (xm_is_u rfl (xm_is_u rfl (xm_is_u rfl (xm_is_u rfl xm_is_r)))))) hI)
          · intro (c5 : (M 60 61) = 12)
            show post (some (0, 0, (-1), (-1), (-1))) (xa_up M 60 21 0)
            exact k _ _ (xm_Inv_is (xm_is_u rfl xm_is_r) hI)
        · intro (i4 : ¬ (c ≤ e ∧ e ≤ 400))
          show post (some (0, 0, (-1), (-1), (-1))) (xa_up M 60 21 0)
          exact k _ _ (xm_Inv_is (xm_is_u rfl xm_is_r) hI)
      · intro (i3 : ¬ (10 ≤ c ∧ c ≤ 400))
        show post (some (0, 0, (-1), (-1), (-1))) (xa_up M 60 21 0)
        exact k _ _ (xm_Inv_is (xm_is_u rfl xm_is_r) hI)
    · intro (i2 : ¬ (0 ≤ b ∧ b ≤ 9))
      show post (some (0, 0, (-1), (-1), (-1))) (xa_up M 60 21 0)
      exact k _ _ (xm_Inv_is (xm_is_u rfl xm_is_r) hI)
  · intro (i1 : ¬ (0 ≤ a ∧ a ≤ 9))
    show post (some (0, 0, (-1), (-1), (-1))) (xa_up M 60 21 0)
    exact k _ _ (xm_Inv_is (xm_is_u rfl xm_is_r) hI)
theorem ms_count {A : Nat → Nat} {h0 : g_H} {d : Nat} {M : xa_M} {post : Option xa_V → xa_M → Prop} {l1 u1 : Int} {a : Int} (hI : xm_Inv M) (k : ∀ (o : Option xa_V) (M1 : xa_M), xm_Inv M1 → post o M1) : xa_C xm_I A h0 (d + 1) 300 [(2, 60, 0, 0, 0), (0, 0, l1, u1, a)] M post := by
  refine xa_C_arg [(2, 60, 0, 0, 0), (0, 0, (-2147483648), 2147483647, a)] (xa_svR (xa_svI (fun _ _ _ _ => by omega) xa_sv0)) ?_
  refine xa_meth (Q0 := (2, 1, false, 0, 0, 12)) (by decide +kernel) ⟨rfl, rfl⟩ (full := s_c_300) rfl rfl ?_
  intro hM hv Q hgo
  refine hgo.1 12 [] 0 _ _ _ ?_
  refine And.intro ?_ (And.intro ?_ (And.intro ?_ (And.intro ?_ (And.intro ?_ (And.intro ?_ (And.intro ?_ (And.intro ?_ (And.intro ?_ (And.intro ?_ (And.intro ?_ (And.intro ?_ trivial)))))))))))
  · intro (c1 : a < 0 ∨ 10 < a)
    show post (some (0, 0, (-1), (-1), (-1))) (xa_up M 60 21 0)
    exact k _ _ (xm_Inv_is (xm_is_u rfl xm_is_r) hI)
  · intro (c1 : a = 0)
    show post (some (0, 0, 0, 14, M 60 0)) (xa_up M 60 21 0)
    exact k _ _ (xm_Inv_is (xm_is_u rfl xm_is_r) hI)
  · intro (c1 : a = 1)
    show post (some (0, 0, 0, 16, M 60 6)) (xa_up M 60 21 0)
    exact k _ _ (xm_Inv_is (xm_is_u rfl xm_is_r) hI)
  · intro (c1 : a = 2)
    show post (some (0, 0, 0, 8, M 60 11)) (xa_up M 60 21 0)
    exact k _ _ (xm_Inv_is (xm_is_u rfl xm_is_r) hI)
  · intro (c1 : a = 3)
    show post (some (0, 0, (-2147483648), 2147483647, M 60 55)) (xa_up M 60 21 0)
    exact k _ _ (xm_Inv_is (xm_is_u rfl xm_is_r) hI)
  · intro (c1 : a = 4)
    show post (some (0, 0, 0, 20, M 60 56)) (xa_up M 60 21 0)
    exact k _ _ (xm_Inv_is (xm_is_u rfl xm_is_r) hI)
  · intro (c1 : a = 5)
    show post (some (0, 0, 0, 8, M 60 59)) (xa_up M 60 21 0)
    exact k _ _ (xm_Inv_is (xm_is_u rfl xm_is_r) hI)
  · intro (c1 : a = 6)
    show post (some (0, 0, 0, 12, M 60 61)) (xa_up M 60 21 0)
    exact k _ _ (xm_Inv_is (xm_is_u rfl xm_is_r) hI)
  · intro (c1 : a = 7)
    show post (some (0, 0, 0, 32, M 60 20)) (xa_up M 60 21 0)
    exact k _ _ (xm_Inv_is (xm_is_u rfl xm_is_r) hI)
  · intro (c1 : a = 8)
    show post (some (0, 0, 0, 80, M 60 18)) (xa_up M 60 21 0)
    exact k _ _ (xm_Inv_is (xm_is_u rfl xm_is_r) hI)
  · intro (c1 : a = 9)
    show post (some (0, 0, 10, 400, M 60 15)) (xa_up M 60 21 0)
    exact k _ _ (xm_Inv_is (xm_is_u rfl xm_is_r) hI)
  · intro (c1 : a = 10)
    show post (some (0, 0, 10, 400, M 60 16)) (xa_up M 60 21 0)
    exact k _ _ (xm_Inv_is (xm_is_u rfl xm_is_r) hI)
theorem ms_sign {A : Nat → Nat} {h0 : g_H} {d : Nat} {M : xa_M} {post : Option xa_V → xa_M → Prop} {l1 u1 : Int} {x1 : Int} (hI : xm_Inv M) (k : ∀ (o : Option xa_V) (M1 : xa_M), xm_Inv M1 → post o M1) : xa_C xm_I A h0 (d + 1) 250 [(2, 60, 0, 0, 0), (0, 0, l1, u1, x1)] M post := by
  refine xa_C_arg [(2, 60, 0, 0, 0), (0, 0, (-2147483648), 2147483647, x1)] (xa_svR (xa_svI (fun _ _ _ _ => by omega) xa_sv0)) ?_
  refine xa_meth (Q0 := (3, 1, false, 0, 0, 12)) (by decide +kernel) ⟨rfl, rfl⟩ (full := s_c_250) rfl rfl ?_
  intro hM hv Q hgo
  have b18 := xm_f18 hM
  have loop0 : ∀ (n : Nat) (x2 : Int) (M1 : xa_M), (-1) ≤ x2 ∧ x2 ≤ 3 → xm_is M M1 → M1 60 18 + x2 ≤ 79 → 0 ≤ M1 60 18 → x2 + 1 < (n : Int) → Q 20 [(2, (0, 0, (-1), 3, x2)), (1, (0, 0, (-2147483648), 2147483647, x1)), (0, (2, 60, 0, 0, 0))] [] M1 := by
    intro n
    induction n with
    | zero => intro x2 M1 b2 hc h18 z18 hms; omega
    | succ n ih0 =>
      intro x2 M1 b2 hc h18 z18 hms0
      refine hgo.1 25 [20] 20 _ _ _ ?_
      refine And.intro ?_ ?_
      · intro (c1 : x2 < 0)
        show post (some (0, 0, 0, 80, M1 60 18)) M1
        exact k _ _ (xm_Inv_is hc hI)
      · intro (c1 : 0 ≤ x2)
        refine And.intro (show 0 ≤ ((M1 60 18) + 1) ∧ ((M1 60 18) + 1) ≤ 80 by omega) ?_
        refine And.intro (show 0 ≤ (M1 60 18) ∧ (M1 60 18) < 80 by omega) ?_
        show Q 20 [(2, (0, 0, (-2), 2, x2 + (-1))), (1, (0, 0, (-2147483648), 2147483647, x1)), (0, (2, 60, 0, 0, 0))] [] (xa_up (xa_up M1 60 18 ((M1 60 18) + 1)) 73 (M1 60 18) (xa_i8 (xa_ib 7 x1 (8 * x2))))
        refine hgo.2.1 20 _ [(2, (0, 0, (-1), 3, x2 + (-1))), (1, (0, 0, (-2147483648), 2147483647, x1)), (0, (2, 60, 0, 0, 0))] _ _ (xa_subI rfl rfl (fun _ _ _ _ => by omega) (xa_subI rfl rfl (fun _ _ _ _ => by omega) (xa_subR rfl xa_sub0))) ?_
        exact ih0 (x2 + (-1)) (xa_up (xa_up M1 60 18 ((M1 60 18) + 1)) 73 (M1 60 18) (xa_i8 (xa_ib 7 x1 (8 * x2)))) (by omega) (xm_is_u rfl (xm_is_u rfl hc)) (by first | omega | (simp [xa_up]; done) | (simp [xa_up]; omega)) (by first | omega | (simp [xa_up]; done) | (simp [xa_up]; omega)) (by omega)
  refine hgo.1 16 [20] 0 _ _ _ ?_
  refine And.intro ?_ ?_
  · intro (c1 : ((M 60 18) + 4) ≤ 80)
    show Q 20 [(2, (0, 0, 3, 3, 3)), (0, (2, 60, 0, 0, 0)), (1, (0, 0, (-2147483648), 2147483647, x1))] [] (xa_up M 60 21 0)
    refine hgo.2.1 20 _ [(2, (0, 0, (-1), 3, 3)), (1, (0, 0, (-2147483648), 2147483647, x1)), (0, (2, 60, 0, 0, 0))] _ _ (xa_subI rfl rfl (fun _ _ _ _ => by omega) (xa_subI rfl rfl (fun _ _ _ _ => by omega) (xa_subR rfl xa_sub0))) ?_
    exact loop0 5 3 (xa_up M 60 21 0) (by omega) (xm_is_u rfl xm_is_r) (by first | omega | (simp [xa_up]; done) | (simp [xa_up]; omega)) (by first | omega | (simp [xa_up]; done) | (simp [xa_up]; omega)) (by omega)
  · intro (c1 : 80 < ((M 60 18) + 4))
    show post (some (0, 0, (-1), (-1), (-1))) (xa_up M 60 21 0)
    exact k _ _ (xm_Inv_is (xm_is_u rfl xm_is_r) hI)
theorem ms_year {A : Nat → Nat} {h0 : g_H} {d : Nat} {M : xa_M} {post : Option xa_V → xa_M → Prop} (hI : xm_Inv M) (k : ∀ (o : Option xa_V) (M1 : xa_M), xm_Inv M1 → post o M1) : xa_C xm_I A h0 (d + 1) 289 [(2, 60, 0, 0, 0)] M post := by
  refine xa_meth (Q0 := (3, 1, false, 0, 0, 12)) (by decide +kernel) ⟨rfl, rfl⟩ (full := s_c_289) rfl rfl ?_
  intro hM hv Q hgo
  have b59 := xm_f59 hM
  have loop0 : ∀ (n : Nat) (x2 x1 : Int) (M1 : xa_M), 1 ≤ x2 ∧ x2 ≤ 9 → xm_is M M1 → M1 60 59 = M 60 59 → 9 - x2 < (n : Int) → Q 29 [(2, (0, 0, 1, 9, x2)), (1, (0, 0, (-2147483648), 2147483647, x1)), (0, (2, 60, 0, 0, 0))] [] M1 := by
    intro n
    induction n with
    | zero => intro x2 x1 M1 b2 hc h59 hms; omega
    | succ n ih0 =>
      intro x2 x1 M1 b2 hc h59 hms0
      refine hgo.1 20 [29] 29 _ _ _ ?_
      refine And.intro ?_ ?_
      · intro (c1 : (M1 60 59) ≤ x2)
        show post (some (0, 0, (-2147483648), 2147483647, x1)) M1
        exact k _ _ (xm_Inv_is hc hI)
      · intro (c1 : x2 < (M1 60 59))
        refine And.intro (show 0 ≤ x2 ∧ x2 < 8 by omega) ?_
        refine And.intro ?_ ?_
        · intro (c2 : ((xa_w32 (x1 + (M1 99 x2))).tmod 4) = 0)
          show Q 29 [(2, (0, 0, 2, 10, x2 + 1)), (1, (0, 0, (-2147483648), 2147483647, x1)), (0, (2, 60, 0, 0, 0))] [] M1
          refine hgo.2.1 29 _ [(2, (0, 0, 1, 9, x2 + 1)), (1, (0, 0, (-2147483648), 2147483647, x1)), (0, (2, 60, 0, 0, 0))] _ _ (xa_subI rfl rfl (fun _ _ _ _ => by omega) (xa_subI rfl rfl (fun _ _ _ _ => by omega) (xa_subR rfl xa_sub0))) ?_
          exact ih0 (x2 + 1) x1 M1 (by omega) hc (by first | omega | (simp [xa_up]; done) | (simp [xa_up]; omega)) (by omega)
        · intro (c2 : ¬ ((xa_w32 (x1 + (M1 99 x2))).tmod 4) = 0)
          show post (some (0, 0, (-2), (-2), (-2))) M1
          exact k _ _ (xm_Inv_is hc hI)
  refine hgo.1 24 [29] 0 _ _ _ ?_
  refine And.intro ?_ ?_
  · intro (c1 : ¬ (M 60 59) = 0)
    show Q 29 [(2, (0, 0, 1, 1, 1)), (1, (0, 0, 0, 3, (4 - ((M 99 0) % 4)) % 4)), (0, (2, 60, 0, 0, 0))] [] (xa_up M 60 21 0)
    refine hgo.2.1 29 _ [(2, (0, 0, 1, 9, 1)), (1, (0, 0, (-2147483648), 2147483647, (4 - ((M 99 0) % 4)) % 4)), (0, (2, 60, 0, 0, 0))] _ _ (xa_subI rfl rfl (fun _ _ _ _ => by omega) (xa_subI rfl rfl (fun _ _ _ _ => by omega) (xa_subR rfl xa_sub0))) ?_
    exact loop0 9 1 ((4 - ((M 99 0) % 4)) % 4) (xa_up M 60 21 0) (by omega) (xm_is_u rfl xm_is_r) (by first | omega | (simp [xa_up]; done) | (simp [xa_up]; omega)) (by omega)
  · intro (c1 : (M 60 59) = 0)
    show post (some (0, 0, (-1), (-1), (-1))) (xa_up M 60 21 0)
    exact k _ _ (xm_Inv_is (xm_is_u rfl xm_is_r) hI)
-- NF
theorem ct_namesFrom : ∀ (n : Nat) {A : Nat → Nat} {h0 : g_H} {d : Nat} {M : xa_M} {post : Option xa_V → xa_M → Prop} {l1 u1 l2 u2 l3 u3 : Int} {a m u : Int}, m - a = (n : Int) → 0 ≤ a → m ≤ 8 → (∀ M1 : xa_M, xm_cor M M1 → post none M1) → xa_C xm_I A h0 (d + n + 2) 282 [(2, 60, 0, 0, 0), (0, 0, l1, u1, a), (0, 0, l2, u2, m), (0, 0, l3, u3, u)] M post := by
  intro n
  induction n with
  | zero =>
    intro A h0 d M post l1 u1 l2 u2 l3 u3 a m u hn a0 m8 kk
    refine xa_C_arg [(2, 60, 0, 0, 0), (0, 0, 0, 8, a), (0, 0, 0, 8, m), (0, 0, (-2147483648), 2147483647, u)] (xa_svR (xa_svI (fun _ _ _ _ => by omega) (xa_svI (fun _ _ _ _ => by omega) (xa_svI (fun _ _ _ _ => by omega) xa_sv0)))) ?_
    refine xa_meth (Q0 := (5, 0, false, 0, 0, 12)) (by decide +kernel) ⟨rfl, rfl⟩ (full := s_c_282) rfl rfl ?_
    intro hM _ Q hgo
    have loop1 : ∀ (n : Nat) (x4 : Int) (M1 : xa_M), 0 ≤ x4 ∧ x4 ≤ 8 → xm_cor M M1 → M1 60 20 ≤ x4 → 8 - x4 < (n : Int) → Q 20 [(4, (0, 0, 0, 8, x4)), (2, (0, 0, 0, 8, m)), (0, (2, 60, 0, 0, 0))] [] M1 := by
      intro n
      induction n with
      | zero => intro x4 M1 b4 hc h20 hms; omega
      | succ n ih1 =>
        intro x4 M1 b4 hc h20 hms
        refine hgo.2.2 _ _ _ _ (fun hM1 _ => ?_)
        have b20 := xm_f20 hM1
        refine hgo.1 17 [20, 58] 20 _ _ _ ?_
        refine And.intro ?_ ?_
        · intro (c1 : m ≤ x4)
          show post none (xa_up M1 60 53 (xa_w32 ((M1 60 53) + 1)))
          exact kk _ (xm_cor_f (by omega) hc)
        · intro (c1 : x4 < m)
          refine And.intro (show 0 ≤ x4 ∧ x4 < 8 by omega) ?_
          show xa_C xm_I A h0 _ 231 [(2, 60, 0, 0, 0), (1, 0, 0, 7, M1 95 x4)] M1 _
          refine ct_tell (n := (M1 60 20)) (by first | rfl | (simp [xa_up]; done) | omega) (by omega) (by omega) ?_
          show Q 20 [(4, (0, 0, 1, 9, x4 + 1)), (2, (0, 0, 0, 8, m)), (0, (2, 60, 0, 0, 0))] [] (xa_up (xa_up M1 74 (M1 60 20) (M1 95 x4)) 60 20 ((M1 60 20) + 1))
          refine hgo.2.1 20 _ [(4, (0, 0, 0, 8, x4 + 1)), (2, (0, 0, 0, 8, m)), (0, (2, 60, 0, 0, 0))] _ _ (xa_subI rfl rfl (fun _ _ _ _ => by omega) (xa_subI rfl rfl (fun _ _ _ _ => by omega) (xa_subR rfl xa_sub0))) ?_
          exact ih1 (x4 + 1) (xa_up (xa_up M1 74 (M1 60 20) (M1 95 x4)) 60 20 ((M1 60 20) + 1)) (by omega) (xm_cor_f (by omega) (xm_cor_a rfl hc)) (by first | omega | (simp [xa_up]; done) | (simp [xa_up]; omega)) (by omega)
    refine hgo.1 17 [20, 58] 0 _ _ _ ?_
    refine And.intro ?_ ?_
    · intro (c1 : ¬ a = m)
      show Q 58 [(4, (0, 0, 0, 0, 0)), (0, (2, 60, 0, 0, 0)), (1, (0, 0, 0, 8, a)), (2, (0, 0, 0, 8, m)), (3, (0, 0, (-2147483648), 2147483647, u))] [] M
      exfalso
      omega
    · intro (c1 : a = m)
      refine And.intro ?_ ?_
      · intro (c2 : ¬ (M 60 53) = 0)
        show post none (xa_up M 60 53 (xa_w32 ((M 60 53) + 1)))
        exact kk _ (xm_cor_f (by omega) xm_cor_r)
      · intro (c2 : (M 60 53) = 0)
        show Q 20 [(4, (0, 0, 0, 0, 0)), (0, (2, 60, 0, 0, 0)), (1, (0, 0, 0, 8, a)), (2, (0, 0, 0, 8, m)), (3, (0, 0, (-2147483648), 2147483647, u))] [] (xa_up M 60 20 0)
        refine hgo.2.1 20 _ [(4, (0, 0, 0, 8, 0)), (2, (0, 0, 0, 8, m)), (0, (2, 60, 0, 0, 0))] _ _ (xa_subI rfl rfl (fun _ _ _ _ => by omega) (xa_subI rfl rfl (fun _ _ _ _ => by omega) (xa_subR rfl xa_sub0))) ?_
        exact loop1 9 0 (xa_up M 60 20 0) (by omega) (xm_cor_f (by omega) xm_cor_r) (by first | omega | (simp [xa_up]; done) | (simp [xa_up]; omega)) (by omega)
  | succ n ih =>
    intro A h0 d M post l1 u1 l2 u2 l3 u3 a m u hn a0 m8 kk
    refine xa_C_arg [(2, 60, 0, 0, 0), (0, 0, 0, 7, a), (0, 0, 0, 8, m), (0, 0, (-2147483648), 2147483647, u)] (xa_svR (xa_svI (fun _ _ _ _ => by omega) (xa_svI (fun _ _ _ _ => by omega) (xa_svI (fun _ _ _ _ => by omega) xa_sv0)))) ?_
    refine xa_meth (d := d + n + 2) (Q0 := (5, 0, false, 0, 0, 12)) (by decide +kernel) ⟨rfl, rfl⟩ (full := s_c_282) rfl rfl ?_
    intro hM _ Q hgo
    have b11 := xm_f11 hM
    have loop2 : ∀ (n : Nat) (x4 : Int) (M1 : xa_M), 0 ≤ x4 ∧ x4 ≤ 8 → xm_cor M M1 → 8 - x4 < (n : Int) → Q 58 [(4, (0, 0, 0, 8, x4)), (1, (0, 0, 0, 7, a)), (2, (0, 0, 0, 8, m)), (3, (0, 0, (-2147483648), 2147483647, u)), (0, (2, 60, 0, 0, 0))] [] M1 := by
      intro n2
      induction n2 with
      | zero => intro x4 M1 b4 hc hms; omega
      | succ n2 ih2 =>
        intro x4 M1 b4 hc hms
        have e11 := xm_corf hc 11 (by omega)
        refine hgo.1 46 [20, 58] 58 _ _ _ ?_
        refine And.intro ?_ ?_
        · intro (c1 : (M1 60 11) ≤ x4)
          show post none M1
          exact kk _ hc
        · intro (c1 : x4 < (M1 60 11))
          show xa_C xm_I A h0 _ 248 [(0, 0, (-2147483648), 2147483647, u), (0, 0, 0, 8, x4)] M1 _
          refine ct_has (fun r2 zr2 er2 => ?_)
          refine And.intro ?_ ?_
          · intro (c3 : ¬ r2 = 0)
            show Q 58 [(4, (0, 0, 1, 9, x4 + 1)), (1, (0, 0, 0, 7, a)), (2, (0, 0, 0, 8, m)), (3, (0, 0, (-2147483648), 2147483647, u)), (0, (2, 60, 0, 0, 0))] [] M1
            refine hgo.2.1 58 _ [(4, (0, 0, 0, 8, x4 + 1)), (1, (0, 0, 0, 7, a)), (2, (0, 0, 0, 8, m)), (3, (0, 0, (-2147483648), 2147483647, u)), (0, (2, 60, 0, 0, 0))] _ _ (xa_subI rfl rfl (fun _ _ _ _ => by omega) (xa_subI rfl rfl (fun _ _ _ _ => by omega) (xa_subI rfl rfl (fun _ _ _ _ => by omega) (xa_subI rfl rfl (fun _ _ _ _ => by omega) (xa_subR rfl xa_sub0))))) ?_
            exact ih2 (x4 + 1) M1 (by omega) hc (by omega)
          · intro (c3 : r2 = 0)
            refine And.intro ?_ ?_
            · intro (c4 : (M1 73 a) = 63)
              refine And.intro (show 0 ≤ x4 ∧ x4 ≤ 7 by omega) ?_
              show xa_C xm_I A h0 _ 282 [(2, 60, 0, 0, 0), (0, 0, 1, 8, a + 1), (0, 0, 0, 8, m), (0, 0, (-2147483648), 2147483647, xa_ib 4 u (xa_ib 6 1 x4))] (xa_up M1 95 a x4) _
              refine ih (d := d) (by omega) (by omega) (by omega) (fun M5 hc5 => ?_)
              show Q 58 [(4, (0, 0, 1, 9, x4 + 1)), (1, (0, 0, 0, 7, a)), (2, (0, 0, 0, 8, m)), (3, (0, 0, (-2147483648), 2147483647, u)), (0, (2, 60, 0, 0, 0))] [] M5
              refine hgo.2.1 58 _ [(4, (0, 0, 0, 8, x4 + 1)), (1, (0, 0, 0, 7, a)), (2, (0, 0, 0, 8, m)), (3, (0, 0, (-2147483648), 2147483647, u)), (0, (2, 60, 0, 0, 0))] _ _ (xa_subI rfl rfl (fun _ _ _ _ => by omega) (xa_subI rfl rfl (fun _ _ _ _ => by omega) (xa_subI rfl rfl (fun _ _ _ _ => by omega) (xa_subI rfl rfl (fun _ _ _ _ => by omega) (xa_subR rfl xa_sub0))))) ?_
              exact ih2 (x4 + 1) M5 (by omega) (xm_cor_t (xm_cor_a rfl hc) hc5) (by omega)
            · intro (c4 : ¬ (M1 73 a) = 63)
              refine And.intro (show 0 ≤ x4 ∧ x4 < 8 by omega) ?_
              refine And.intro ?_ ?_
              · intro (c6 : (M1 73 a) = (M1 72 x4))
                refine And.intro (show 0 ≤ x4 ∧ x4 ≤ 7 by omega) ?_
                show xa_C xm_I A h0 _ 282 [(2, 60, 0, 0, 0), (0, 0, 1, 8, a + 1), (0, 0, 0, 8, m), (0, 0, (-2147483648), 2147483647, xa_ib 4 u (xa_ib 6 1 x4))] (xa_up M1 95 a x4) _
                refine ih (d := d) (by omega) (by omega) (by omega) (fun M7 hc7 => ?_)
                show Q 58 [(4, (0, 0, 1, 9, x4 + 1)), (1, (0, 0, 0, 7, a)), (2, (0, 0, 0, 8, m)), (3, (0, 0, (-2147483648), 2147483647, u)), (0, (2, 60, 0, 0, 0))] [] M7
                refine hgo.2.1 58 _ [(4, (0, 0, 0, 8, x4 + 1)), (1, (0, 0, 0, 7, a)), (2, (0, 0, 0, 8, m)), (3, (0, 0, (-2147483648), 2147483647, u)), (0, (2, 60, 0, 0, 0))] _ _ (xa_subI rfl rfl (fun _ _ _ _ => by omega) (xa_subI rfl rfl (fun _ _ _ _ => by omega) (xa_subI rfl rfl (fun _ _ _ _ => by omega) (xa_subI rfl rfl (fun _ _ _ _ => by omega) (xa_subR rfl xa_sub0))))) ?_
                exact ih2 (x4 + 1) M7 (by omega) (xm_cor_t (xm_cor_a rfl hc) hc7) (by omega)
              · intro (c6 : ¬ (M1 73 a) = (M1 72 x4))
                show Q 58 [(4, (0, 0, 1, 9, x4 + 1)), (1, (0, 0, 0, 7, a)), (2, (0, 0, 0, 8, m)), (3, (0, 0, (-2147483648), 2147483647, u)), (0, (2, 60, 0, 0, 0))] [] M1
                refine hgo.2.1 58 _ [(4, (0, 0, 0, 8, x4 + 1)), (1, (0, 0, 0, 7, a)), (2, (0, 0, 0, 8, m)), (3, (0, 0, (-2147483648), 2147483647, u)), (0, (2, 60, 0, 0, 0))] _ _ (xa_subI rfl rfl (fun _ _ _ _ => by omega) (xa_subI rfl rfl (fun _ _ _ _ => by omega) (xa_subI rfl rfl (fun _ _ _ _ => by omega) (xa_subI rfl rfl (fun _ _ _ _ => by omega) (xa_subR rfl xa_sub0))))) ?_
                exact ih2 (x4 + 1) M1 (by omega) hc (by omega)
    refine hgo.1 17 [20, 58] 0 _ _ _ ?_
    refine And.intro ?_ ?_
    · intro (c1 : ¬ a = m)
      show Q 58 [(4, (0, 0, 0, 0, 0)), (0, (2, 60, 0, 0, 0)), (1, (0, 0, 0, 7, a)), (2, (0, 0, 0, 8, m)), (3, (0, 0, (-2147483648), 2147483647, u))] [] M
      refine hgo.2.1 58 _ [(4, (0, 0, 0, 8, 0)), (1, (0, 0, 0, 7, a)), (2, (0, 0, 0, 8, m)), (3, (0, 0, (-2147483648), 2147483647, u)), (0, (2, 60, 0, 0, 0))] _ _ (xa_subI rfl rfl (fun _ _ _ _ => by omega) (xa_subI rfl rfl (fun _ _ _ _ => by omega) (xa_subI rfl rfl (fun _ _ _ _ => by omega) (xa_subI rfl rfl (fun _ _ _ _ => by omega) (xa_subR rfl xa_sub0))))) ?_
      exact loop2 9 0 M (by omega) xm_cor_r (by omega)
    · intro (c1 : a = m)
      refine And.intro ?_ ?_
      · intro (c2 : ¬ (M 60 53) = 0)
        show post none (xa_up M 60 53 (xa_w32 ((M 60 53) + 1)))
        exact kk _ (xm_cor_f (by omega) xm_cor_r)
      · intro (c2 : (M 60 53) = 0)
        show Q 20 [(4, (0, 0, 0, 0, 0)), (0, (2, 60, 0, 0, 0)), (1, (0, 0, 0, 7, a)), (2, (0, 0, 0, 8, m)), (3, (0, 0, (-2147483648), 2147483647, u))] [] (xa_up M 60 20 0)
        exfalso
        omega
theorem ct_namesFrom8 {A : Nat → Nat} {h0 : g_H} {d : Nat} {M : xa_M} {post : Option xa_V → xa_M → Prop} {l1 u1 l2 u2 l3 u3 a m u : Int} (a0 : 0 ≤ a) (a1 : a ≤ m) (m8 : m ≤ 8) (k : ∀ M1 : xa_M, xm_cor M M1 → post none M1) : xa_C xm_I A h0 (d + 10) 282 [(2, 60, 0, 0, 0), (0, 0, l1, u1, a), (0, 0, l2, u2, m), (0, 0, l3, u3, u)] M post := by
  obtain ⟨n, hn⟩ : ∃ n : Nat, m - a = (n : Int) := ⟨(m - a).toNat, by omega⟩
  have hd : d + 10 = (d + (8 - n)) + n + 2 := by omega
  rw [hd]
  exact ct_namesFrom n hn a0 m8 k
theorem ms_names {A : Nat → Nat} {h0 : g_H} {d : Nat} {M : xa_M} {post : Option xa_V → xa_M → Prop} (hI : xm_Inv M) (k : ∀ (o : Option xa_V) (M1 : xa_M), xm_Inv M1 → post o M1) : xa_C xm_I A h0 (d + 11) 281 [(2, 60, 0, 0, 0)] M post := by
  refine xa_meth (Q0 := (3, 1, false, 0, 0, 12)) (by decide +kernel) ⟨rfl, rfl⟩ (full := s_c_281) rfl rfl ?_
  intro hM hv Q hgo
  have b18 := xm_f18 hM
  obtain ⟨x1, hx1⟩ : ∃ x1, x1 = M 60 18 := ⟨_, rfl⟩
  have loop0 : ∀ (n : Nat) (x2 : Int) (M1 : xa_M), 0 ≤ x2 ∧ x2 ≤ 8 → xm_is M M1 → 8 - x2 < (n : Int) → Q 17 [(2, (0, 0, 0, 8, x2)), (1, (0, 0, 0, 80, x1)), (0, (2, 60, 0, 0, 0))] [] M1 := by
    intro n
    induction n with
    | zero => intro x2 M1 b2 hc hms; omega
    | succ n ih0 =>
      intro x2 M1 b2 hc hms0
      refine hgo.1 28 [17] 17 _ _ _ ?_
      refine And.intro ?_ ?_
      · intro (c1 : x1 ≤ x2)
        refine And.intro ?_ ?_
        · intro (c2 : ¬ x1 = 0)
          refine And.intro ?_ ?_
          · intro (c3 : x1 ≤ 8)
            show xa_C xm_I A h0 _ 282 [(2, 60, 0, 0, 0), (0, 0, 0, 0, 0), (0, 0, 0, 80, x1), (0, 0, 0, 0, 0)] (xa_up M1 60 53 0) _
            refine ct_namesFrom8 (by omega) (by omega) (by omega) (fun M4 hc4 => ?_)
            show post (some (0, 0, (-2147483648), 2147483647, M4 60 53)) M4
            exact k _ _ (xm_Inv_is (xm_is_t (xm_is_u rfl hc) (xm_is_c hc4)) hI)
          · intro (c3 : 8 < x1)
            show post (some (0, 0, (-108), (-108), (-108))) M1
            exact k _ _ (xm_Inv_is hc hI)
        · intro (c2 : x1 = 0)
          show post (some (0, 0, (-100), (-100), (-100))) M1
          exact k _ _ (xm_Inv_is hc hI)
      · intro (c1 : x2 < x1)
        refine And.intro ?_ ?_
        · intro (c5 : 8 ≤ x2)
          refine And.intro ?_ ?_
          · intro (c6 : ¬ x1 = 0)
            refine And.intro ?_ ?_
            · intro (c7 : x1 ≤ 8)
              show xa_C xm_I A h0 _ 282 [(2, 60, 0, 0, 0), (0, 0, 0, 0, 0), (0, 0, 0, 80, x1), (0, 0, 0, 0, 0)] (xa_up M1 60 53 0) _
              refine ct_namesFrom8 (by omega) (by omega) (by omega) (fun M8 hc8 => ?_)
              show post (some (0, 0, (-2147483648), 2147483647, M8 60 53)) M8
              exact k _ _ (xm_Inv_is (xm_is_t (xm_is_u rfl hc) (xm_is_c hc8)) hI)
            · intro (c7 : 8 < x1)
              show post (some (0, 0, (-108), (-108), (-108))) M1
              exact k _ _ (xm_Inv_is hc hI)
          · intro (c6 : x1 = 0)
            show post (some (0, 0, (-100), (-100), (-100))) M1
            exact k _ _ (xm_Inv_is hc hI)
        · intro (c5 : x2 < 8)
          refine And.intro ?_ ?_
          · intro (c9 : (M1 73 x2) = 63)
            show Q 17 [(2, (0, 0, 1, 9, x2 + 1)), (1, (0, 0, 0, 80, x1)), (0, (2, 60, 0, 0, 0))] [] M1
            refine hgo.2.1 17 _ [(2, (0, 0, 0, 8, x2 + 1)), (1, (0, 0, 0, 80, x1)), (0, (2, 60, 0, 0, 0))] _ _ (xa_subI rfl rfl (fun _ _ _ _ => by omega) (xa_subI rfl rfl (fun _ _ _ _ => by omega) (xa_subR rfl xa_sub0))) ?_
            exact ih0 (x2 + 1) M1 (by omega) hc (by omega)
          · intro (c9 : ¬ (M1 73 x2) = 63)
            show xa_C xm_I A h0 _ 214 [(0, 0, (-128), 127, M1 73 x2), (0, 0, 97, 97, 97), (0, 0, 122, 122, 122)] M1 _
            refine ct_in ?_ ?_
            · intro (i10 : 97 ≤ (M1 73 x2) ∧ (M1 73 x2) ≤ 122)
              show Q 17 [(2, (0, 0, 1, 9, x2 + 1)), (1, (0, 0, 0, 80, x1)), (0, (2, 60, 0, 0, 0))] [] M1
              refine hgo.2.1 17 _ [(2, (0, 0, 0, 8, x2 + 1)), (1, (0, 0, 0, 80, x1)), (0, (2, 60, 0, 0, 0))] _ _ (xa_subI rfl rfl (fun _ _ _ _ => by omega) (xa_subI rfl rfl (fun _ _ _ _ => by omega) (xa_subR rfl xa_sub0))) ?_
              exact ih0 (x2 + 1) M1 (by omega) hc (by omega)
            · intro (i10 : ¬ (97 ≤ (M1 73 x2) ∧ (M1 73 x2) ≤ 122))
              show post (some (0, 0, (-108), (-100), (-100) - x2)) M1
              exact k _ _ (xm_Inv_is hc hI)
  refine hgo.1 16 [17] 0 _ _ _ ?_
  show Q 17 [(2, (0, 0, 0, 0, 0)), (1, (0, 0, 0, 80, M 60 18)), (0, (2, 60, 0, 0, 0))] [] (xa_up (xa_up M 60 21 0) 60 18 0)
  rw [← hx1]
  refine hgo.2.1 17 _ [(2, (0, 0, 0, 8, 0)), (1, (0, 0, 0, 80, x1)), (0, (2, 60, 0, 0, 0))] _ _ (xa_subI rfl rfl (fun _ _ _ _ => by omega) (xa_subI rfl rfl (fun _ _ _ _ => by omega) (xa_subR rfl xa_sub0))) ?_
  exact loop0 9 0 (xa_up (xa_up M 60 21 0) 60 18 0) (by omega) (xm_is_u rfl (xm_is_u rfl xm_is_r)) (by omega)
theorem ms_wrong {A : Nat → Nat} {h0 : g_H} {d : Nat} {M : xa_M} {post : Option xa_V → xa_M → Prop} (hI : xm_Inv M) (k : ∀ (o : Option xa_V) (M1 : xa_M), xm_Inv M1 → post o M1) : xa_C xm_I A h0 (d + 3) 288 [(2, 60, 0, 0, 0)] M post := by
  refine xa_meth (Q0 := (3, 1, false, 0, 0, 12)) (by decide +kernel) ⟨rfl, rfl⟩ (full := s_c_288) rfl rfl ?_
  intro hM hv Q hgo
  have loop0 : ∀ (n : Nat) (x2 x1 : Int) (M1 : xa_M), 1 ≤ x2 ∧ x2 ≤ 223 → 0 ≤ x1 ∧ x1 ≤ 222 → xm_is M M1 → 223 - x2 < (n : Int) → Q 9 [(2, (0, 0, 1, 223, x2)), (1, (0, 0, 0, 222, x1)), (0, (2, 60, 0, 0, 0))] [] M1 := by
    intro n
    induction n with
    | zero => intro x2 x1 M1 b2 b1 hc hms; omega
    | succ n ih0 =>
      intro x2 x1 M1 b2 b1 hc hms0
      refine hgo.1 25 [9] 9 _ _ _ ?_
      refine And.intro ?_ ?_
      · intro (c1 : 223 ≤ x2)
        show xa_C xm_I A h0 _ 231 [(2, 60, 0, 0, 0), (1, 0, 0, 222, x1)] (xa_up M1 60 20 0) _
        refine ct_tell (n := 0) (by first | rfl | (simp [xa_up]; done) | omega) (by omega) (by omega) ?_
        show xa_C xm_I A h0 _ 287 [(2, 60, 0, 0, 0), (0, 0, 0, 222, x1)] (xa_up (xa_up (xa_up M1 60 20 0) 74 0 x1) 60 20 (0 + 1)) _
        refine ct_against (by omega) (by omega) (fun r2 => ?_)
        show xa_C xm_I A h0 _ 231 [(2, 60, 0, 0, 0), (1, 0, (-2147483648), 2147483647, r2)] (xa_up (xa_up (xa_up M1 60 20 0) 74 0 x1) 60 20 (0 + 1)) _
        refine ct_tell (n := (0 + 1)) (by first | rfl | (simp [xa_up]; done) | omega) (by omega) (by omega) ?_
        show xa_C xm_I A h0 _ 287 [(2, 60, 0, 0, 0), (0, 0, 0, 222, x1)] (xa_up (xa_up (xa_up (xa_up (xa_up M1 60 20 0) 74 0 x1) 60 20 (0 + 1)) 74 (0 + 1) r2) 60 20 ((0 + 1) + 1)) _
        refine ct_against (by omega) (by omega) (fun r3 => ?_)
        show xa_C xm_I A h0 _ 136 [(0, 0, (-2147483648), 2147483647, r3)] (xa_up (xa_up (xa_up (xa_up (xa_up M1 60 20 0) 74 0 x1) 60 20 (0 + 1)) 74 (0 + 1) r2) 60 20 ((0 + 1) + 1)) _
        refine ct_bitCount ?_
        show post (some (0, 0, (-2147483648), 2147483647, xa_bc r3)) (xa_up (xa_up (xa_up (xa_up (xa_up M1 60 20 0) 74 0 x1) 60 20 (0 + 1)) 74 (0 + 1) r2) 60 20 ((0 + 1) + 1))
        exact k _ _ (xm_Inv_is (xm_is_u rfl (xm_is_u rfl (xm_is_u rfl (xm_is_u rfl (xm_is_u rfl hc))))) hI)
      · intro (c1 : x2 < 223)
        show xa_C xm_I A h0 _ 287 [(2, 60, 0, 0, 0), (0, 0, 1, 223, x2)] M1 _
        refine ct_against (by omega) (by omega) (fun r4 => ?_)
        show xa_C xm_I A h0 _ 136 [(0, 0, (-2147483648), 2147483647, r4)] M1 _
        refine ct_bitCount ?_
        show xa_C xm_I A h0 _ 287 [(2, 60, 0, 0, 0), (0, 0, 0, 222, x1)] M1 _
        refine ct_against (by omega) (by omega) (fun r5 => ?_)
        show xa_C xm_I A h0 _ 136 [(0, 0, (-2147483648), 2147483647, r5)] M1 _
        refine ct_bitCount ?_
        refine And.intro ?_ ?_
        · intro (c6 : (xa_bc r5) ≤ (xa_bc r4))
          show Q 9 [(2, (0, 0, 2, 224, x2 + 1)), (1, (0, 0, 0, 222, x1)), (0, (2, 60, 0, 0, 0))] [] M1
          refine hgo.2.1 9 _ [(2, (0, 0, 1, 223, x2 + 1)), (1, (0, 0, 0, 222, x1)), (0, (2, 60, 0, 0, 0))] _ _ (xa_subI rfl rfl (fun _ _ _ _ => by omega) (xa_subI rfl rfl (fun _ _ _ _ => by omega) (xa_subR rfl xa_sub0))) ?_
          exact ih0 (x2 + 1) x1 M1 (by omega) (by omega) hc (by omega)
        · intro (c6 : (xa_bc r4) < (xa_bc r5))
          show Q 9 [(2, (0, 0, 2, 224, x2 + 1)), (1, (0, 0, 1, 223, x2)), (0, (2, 60, 0, 0, 0))] [] M1
          refine hgo.2.1 9 _ [(2, (0, 0, 1, 223, x2 + 1)), (1, (0, 0, 0, 222, x2)), (0, (2, 60, 0, 0, 0))] _ _ (xa_subI rfl rfl (fun _ _ _ _ => by omega) (xa_subI rfl rfl (fun _ _ _ _ => by omega) (xa_subR rfl xa_sub0))) ?_
          exact ih0 (x2 + 1) x2 M1 (by omega) (by omega) hc (by omega)
  refine hgo.1 12 [9] 0 _ _ _ ?_
  show Q 9 [(2, (0, 0, 1, 1, 1)), (1, (0, 0, 0, 0, 0)), (0, (2, 60, 0, 0, 0))] [] (xa_up M 60 21 0)
  refine hgo.2.1 9 _ [(2, (0, 0, 1, 223, 1)), (1, (0, 0, 0, 222, 0)), (0, (2, 60, 0, 0, 0))] _ _ (xa_subI rfl rfl (fun _ _ _ _ => by omega) (xa_subI rfl rfl (fun _ _ _ _ => by omega) (xa_subR rfl xa_sub0))) ?_
  exact loop0 223 1 0 (xa_up M 60 21 0) (by omega) (by omega) (xm_is_u rfl xm_is_r) (by omega)
theorem ms_uneven {A : Nat → Nat} {h0 : g_H} {d : Nat} {M : xa_M} {post : Option xa_V → xa_M → Prop} {l1 u1 l2 u2 : Int} {x1 x2 : Int} (hI : xm_Inv M) (k : ∀ (o : Option xa_V) (M1 : xa_M), xm_Inv M1 → post o M1) : xa_C xm_I A h0 (d + 4) 271 [(2, 60, 0, 0, 0), (0, 0, l1, u1, x1), (0, 0, l2, u2, x2)] M post := by
  refine xa_C_arg [(2, 60, 0, 0, 0), (0, 0, (-2147483648), 2147483647, x1), (0, 0, (-2147483648), 2147483647, x2)] (xa_svR (xa_svI (fun _ _ _ _ => by omega) (xa_svI (fun _ _ _ _ => by omega) xa_sv0))) ?_
  refine xa_meth (Q0 := (9, 1, false, 0, 0, 12)) (by decide +kernel) ⟨rfl, rfl⟩ (full := s_c_271) rfl rfl ?_
  intro hM hv Q hgo
  have loop0 : 1 ≤ x1 → x1 ≤ 1000 → 1 ≤ x2 → x2 ≤ 1000 → ∀ (n : Nat) (x6 x4 x3 : Int) (M1 : xa_M), 1 ≤ x6 ∧ x6 ≤ 100 → 0 ≤ x3 ∧ x3 ≤ 99 → 1 ≤ x2 ∧ x2 ≤ 1000 → 1 ≤ x1 ∧ x1 ≤ 1000 → xm_is M M1 → 100 - x6 < (n : Int) → Q 49 [(6, (0, 0, 1, 100, x6)), (4, (1, 0, (-9223372036854775808), 9223372036854775807, x4)), (3, (0, 0, 0, 99, x3)), (2, (0, 0, 1, 1000, x2)), (1, (0, 0, 1, 1000, x1)), (0, (2, 60, 0, 0, 0))] [] M1 := by
    intro u0 u1 v0 v1
    intro n
    induction n with
    | zero => intro x6 x4 x3 M1 b6 b3 f2 f1 hc hms; omega
    | succ n ih0 =>
      intro x6 x4 x3 M1 b6 b3 f2 f1 hc hms0
      refine hgo.1 44 [49] 49 _ _ _ ?_
      refine And.intro ?_ ?_
      · intro (c1 : 100 ≤ x6)
        show xa_C xm_I A h0 _ 230 [(2, 60, 0, 0, 0), (1, 0, 100, 199, 100 + x3), (1, 0, 1, 100, 100 - x3)] (xa_up M1 60 20 0) _
        refine ct_tellPart (n := 0) (by first | rfl | (simp [xa_up]; done)) (by decide) (by decide) (by decide) (by omega) (fun g2 eg2 pg2 qg2 => ?_)
        show post (some (0, 0, 0, 99, x3)) (xa_up (xa_up (xa_up (xa_up (xa_up M1 60 20 0) 74 0 ((100 + x3).tdiv g2)) 60 20 1) 74 1 ((100 - x3).tdiv g2)) 60 20 2)
        exact k _ _ (xm_Inv_is (xm_is_u rfl (xm_is_u rfl (xm_is_u rfl (xm_is_u rfl (xm_is_u rfl hc))))) hI)
      · intro (c1 : x6 < 100)
        show xa_C xm_I A h0 _ 56 [(1, 0, (-98899), 200000, ((100 + x6) * x2) - ((100 - x6) * x1))] M1 _
        refine ct_absb 200000 (by decide) (by decide) (by decide) (fun a3 ea3 => ?_)
        refine And.intro ?_ ?_
        · intro (c4 : (a3 * (100 - x3)) < (xa_w64 (x4 * (100 - x6))))
          show Q 49 [(6, (0, 0, 2, 101, x6 + 1)), (4, (1, 0, 0, 200000, a3)), (3, (0, 0, 1, 100, x6)), (7, (1, 0, 0, 200000, a3)), (2, (0, 0, 1, 1000, x2)), (1, (0, 0, 1, 1000, x1)), (0, (2, 60, 0, 0, 0))] [] M1
          refine hgo.2.1 49 _ [(6, (0, 0, 1, 100, x6 + 1)), (4, (1, 0, (-9223372036854775808), 9223372036854775807, a3)), (3, (0, 0, 0, 99, x6)), (2, (0, 0, 1, 1000, x2)), (1, (0, 0, 1, 1000, x1)), (0, (2, 60, 0, 0, 0))] _ _ (xa_subI rfl rfl (fun _ _ _ _ => by omega) (xa_subL rfl rfl (fun _ _ _ _ => by omega) (xa_subI rfl rfl (fun _ _ _ _ => by omega) (xa_subI rfl rfl (fun _ _ _ _ => by omega) (xa_subI rfl rfl (fun _ _ _ _ => by omega) (xa_subR rfl xa_sub0)))))) ?_
          exact ih0 (x6 + 1) a3 x6 M1 (by omega) (by omega) (by omega) (by omega) hc (by omega)
        · intro (c4 : (xa_w64 (x4 * (100 - x6))) ≤ (a3 * (100 - x3)))
          show Q 49 [(6, (0, 0, 2, 101, x6 + 1)), (7, (1, 0, 0, 200000, a3)), (4, (1, 0, (-9223372036854775808), 9223372036854775807, x4)), (3, (0, 0, 0, 99, x3)), (2, (0, 0, 1, 1000, x2)), (1, (0, 0, 1, 1000, x1)), (0, (2, 60, 0, 0, 0))] [] M1
          refine hgo.2.1 49 _ [(6, (0, 0, 1, 100, x6 + 1)), (4, (1, 0, (-9223372036854775808), 9223372036854775807, x4)), (3, (0, 0, 0, 99, x3)), (2, (0, 0, 1, 1000, x2)), (1, (0, 0, 1, 1000, x1)), (0, (2, 60, 0, 0, 0))] _ _ (xa_subI rfl rfl (fun _ _ _ _ => by omega) (xa_subL rfl rfl (fun _ _ _ _ => by omega) (xa_subI rfl rfl (fun _ _ _ _ => by omega) (xa_subI rfl rfl (fun _ _ _ _ => by omega) (xa_subI rfl rfl (fun _ _ _ _ => by omega) (xa_subR rfl xa_sub0)))))) ?_
          exact ih0 (x6 + 1) x4 x3 M1 (by omega) (by omega) (by omega) (by omega) hc (by omega)
  refine hgo.1 22 [34] 0 _ _ _ ?_
  show xa_C xm_I A h0 _ 214 [(0, 0, (-2147483648), 2147483647, x1), (0, 0, 1, 1, 1), (0, 0, 1000, 1000, 1000)] (xa_up M 60 21 0) _
  refine ct_in ?_ ?_
  · intro (i1 : 1 ≤ x1 ∧ x1 ≤ 1000)
    show xa_C xm_I A h0 _ 214 [(0, 0, (-2147483648), 2147483647, x2), (0, 0, 1, 1, 1), (0, 0, 1000, 1000, 1000)] (xa_up M 60 21 0) _
    refine ct_in ?_ ?_
    · intro (i2 : 1 ≤ x2 ∧ x2 ≤ 1000)
      refine And.intro ?_ ?_
      · intro (c3 : x2 ≤ x1)
        show Q 34 [(0, (2, 60, 0, 0, 0)), (1, (0, 0, (-2147483648), 2147483647, x1)), (2, (0, 0, (-2147483648), 2147483647, x2))] [] (xa_up M 60 21 0)
        refine hgo.2.1 34 _ [(0, (2, 60, 0, 0, 0)), (1, (0, 0, 1, 1000, x1)), (2, (0, 0, 1, 1000, x2))] _ _ (xa_subR rfl (xa_subI rfl rfl (fun _ _ _ _ => by omega) (xa_subI rfl rfl (fun _ _ _ _ => by omega) xa_sub0))) ?_
        have hb1 : 1 ≤ x1 ∧ x1 ≤ 1000 := by omega
        have hb2 : 1 ≤ x2 ∧ x2 ≤ 1000 := by omega
        refine hgo.1 16 [49] 34 _ _ _ ?_
        show Q 49 [(6, (0, 0, 1, 1, 1)), (4, (1, 0, (-99900), 99900, 100 * (x1 - x2))), (3, (0, 0, 0, 0, 0)), (0, (2, 60, 0, 0, 0)), (1, (0, 0, 1, 1000, x1)), (2, (0, 0, 1, 1000, x2))] [] (xa_up M 60 21 0)
        refine hgo.2.1 49 _ [(6, (0, 0, 1, 100, 1)), (4, (1, 0, (-9223372036854775808), 9223372036854775807, 100 * (x1 - x2))), (3, (0, 0, 0, 99, 0)), (2, (0, 0, 1, 1000, x2)), (1, (0, 0, 1, 1000, x1)), (0, (2, 60, 0, 0, 0))] _ _ (xa_subI rfl rfl (fun _ _ _ _ => by omega) (xa_subL rfl rfl (fun _ _ _ _ => by omega) (xa_subI rfl rfl (fun _ _ _ _ => by omega) (xa_subI rfl rfl (fun _ _ _ _ => by omega) (xa_subI rfl rfl (fun _ _ _ _ => by omega) (xa_subR rfl xa_sub0)))))) ?_
        exact loop0 hb1.1 hb1.2 hb2.1 hb2.2 100 1 (100 * (x1 - x2)) 0 (xa_up M 60 21 0) (by omega) (by omega) (by omega) (by omega) (xm_is_u rfl xm_is_r) (by omega)
      · intro (c3 : x1 < x2)
        show post (some (0, 0, (-1), (-1), (-1))) (xa_up M 60 21 0)
        exact k _ _ (xm_Inv_is (xm_is_u rfl xm_is_r) hI)
    · intro (i2 : ¬ (1 ≤ x2 ∧ x2 ≤ 1000))
      show post (some (0, 0, (-1), (-1), (-1))) (xa_up M 60 21 0)
      exact k _ _ (xm_Inv_is (xm_is_u rfl xm_is_r) hI)
  · intro (i1 : ¬ (1 ≤ x1 ∧ x1 ≤ 1000))
    show post (some (0, 0, (-1), (-1), (-1))) (xa_up M 60 21 0)
    exact k _ _ (xm_Inv_is (xm_is_u rfl xm_is_r) hI)
