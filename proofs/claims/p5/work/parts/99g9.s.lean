-- sheet (made by wip/u/mksh.py)
set_option maxRecDepth 20000
/-- a pair of calls that leave what is told, their answer a number that both know -/
theorem iv_armK {A : Nat → Nat} {jx jm : Nat} {spec : List Nat} {cmp : Bool} (H : ∀ (W : y_W) (b : Bool) (h : g_H) (as : List Value) (M : xa_M), iv_JW A W b h → xa_H xm_I A M h h → xm_Inv M → iv_sp spec as → lm_R (xj (iv_num h) M) → ∃ (vs ms : List xa_V) (n : Int), xa_gS A vs (.ref (A 0) :: as) ∧ xa_gS A ms (.ref (A 60) :: as) ∧ xa_C (xl_I b) A h 60 jx vs (iv_num h) (fun o M1 => (∃ lo hi, o = some (0, 0, lo, hi, n)) ∧ ∀ q j, lm_C q j → q < 60 → M1 q j = iv_num h q j) ∧ ∀ h1, xa_C xm_I A h1 60 jm ms M (fun o M2 => (∃ lo hi, o = some (0, 0, lo, hi, n)) ∧ xk_U M M2 ∧ xm_Inv M2)) : iv_pair (iv_J A) A jx jm spec cmp false := by
  intro h as hI hs
  obtain ⟨W, b, hJ⟩ := hI
  obtain ⟨M, hM, hInv⟩ := hJ.1.2.2
  obtain ⟨vs, ms, n, g1, g2, g3, g4⟩ := H W b h as M hJ hM hInv hs (iv_xj hJ hM)
  refine ⟨0, 0, by decide, by decide, g_run_mono (iv_xrun hJ g1 g3) (fun r1 h1 hp => ?_)⟩
  obtain ⟨v, M1, ⟨⟨lo, hi, rfl⟩, hk⟩, hr, hX⟩ := hp
  obtain ⟨hI1, km⟩ := xc_B (xl_fit b) hJ.1 hX
  have hM1 := km M hM
  obtain ⟨z, rfl, hz⟩ := iv_gRi hr
  refine ⟨z, rfl, iv_sh_ok (iv_iW_inv hI1), g_run_mono (iv_mrun hM1 g2 (g4 h1)) (fun r2 h2 hp2 => ?_)⟩
  obtain ⟨v2, M2, ⟨⟨lo2, hi2, rfl⟩, hu, hInv2⟩, hr2, hM2⟩ := hp2
  obtain ⟨z2, rfl, hz2⟩ := iv_gRi hr2
  refine ⟨⟨z2, rfl, fun _ => Int32.toInt_inj.mp (by rw [hz, hz2])⟩, W, b, iv_join hJ hM hX hM2 hInv2 (fun x => hu 104 x rfl) (fun x => hu 105 x rfl) (lm_R_k (fun q j hC => ?_) (iv_xj hJ hM))⟩
  unfold xj
  by_cases hq : q < 60
  · rw [if_pos hq, if_pos hq]
    exact hk q j hC hq
  · rw [if_neg hq, if_neg hq]
    refine hu q j ?_
    unfold lm_C at hC
    unfold xk_B
    simp only [Bool.or_eq_true, Bool.and_eq_true, Nat.beq_eq, decide_eq_true_eq]
    omega
def ls_v (a b n : Int) : Int := if a < 0 ∨ 3 < a ∨ 14 < b then -1 else if a = 3 then -3 else if b < 0 then -2 else if b ≤ n then b else n
theorem ls_e {x a b n : Int} (h : ((a < 0 ∨ 3 < a ∨ 14 < b) ∧ x = -1) ∨ ((0 ≤ a ∧ a ≤ 3 ∧ b ≤ 14) ∧ ((a = 3 ∧ x = -3) ∨ (a < 3 ∧ ((b < 0 ∧ x = -2) ∨ (0 ≤ b ∧ ((b ≤ n ∧ x = b) ∨ (n < b ∧ x = n)))))))) : x = ls_v a b n := by
  unfold ls_v
  by_cases c1 : a < 0 ∨ 3 < a ∨ 14 < b
  · rw [if_pos c1]
    omega
  · rw [if_neg c1]
    by_cases c2 : a = 3
    · rw [if_pos c2]
      omega
    · rw [if_neg c2]
      by_cases c3 : b < 0
      · rw [if_pos c3]
        omega
      · rw [if_neg c3]
        by_cases c4 : b ≤ n
        · rw [if_pos c4]
          omega
        · rw [if_neg c4]
          omega
theorem cx_32 {b : Bool} {A : Nat → Nat} {h0 : g_H} {d : Nat} {M : xa_M} {post : Option xa_V → xa_M → Prop} {l0 u0 l1 u1 : Int} {x1 x2 : Int} (k1 : (x2 < x1) → post (some (0, 0, (-2147483648), 2147483647, x2)) M) (k2 : (x1 ≤ x2) → post (some (0, 0, (-2147483648), 2147483647, x1)) M) : xa_C (xl_I b) A h0 (d + 1) 32 [(0, 0, l0, u0, x1), (0, 0, l1, u1, x2)] M post := by
  refine xa_C_arg [(0, 0, (-2147483648), 2147483647, x1), (0, 0, (-2147483648), 2147483647, x2)] (xa_svI (fun _ _ _ _ => by omega) (xa_svI (fun _ _ _ _ => by omega) (xa_sv0))) ?_
  refine xa_meth (Q0 := (2, 1, false, 0, 0, 14)) (by decide +kernel) ⟨rfl, rfl⟩ (full := s_c_32) rfl rfl ?_
  intro hM hv Q hgo
  refine hgo.1 10 [] 0 _ _ _ ?_
  refine And.intro ?_ ?_
  · intro (c1 : x2 < x1)
    show post (some (0, 0, (-2147483648), 2147483647, x2)) M
    exact k1 c1
  · intro (c1 : x1 ≤ x2)
    show post (some (0, 0, (-2147483648), 2147483647, x1)) M
    exact k2 c1
theorem cx_35 {b : Bool} {A : Nat → Nat} {h0 : g_H} {d : Nat} {M : xa_M} {post : Option xa_V → xa_M → Prop} {l0 u0 l1 u1 : Int} {x1 x2 : Int} (k1 : (x1 < x2) → post (some (0, 0, (-2147483648), 2147483647, x2)) M) (k2 : (x2 ≤ x1) → post (some (0, 0, (-2147483648), 2147483647, x1)) M) : xa_C (xl_I b) A h0 (d + 1) 35 [(0, 0, l0, u0, x1), (0, 0, l1, u1, x2)] M post := by
  refine xa_C_arg [(0, 0, (-2147483648), 2147483647, x1), (0, 0, (-2147483648), 2147483647, x2)] (xa_svI (fun _ _ _ _ => by omega) (xa_svI (fun _ _ _ _ => by omega) (xa_sv0))) ?_
  refine xa_meth (Q0 := (2, 1, false, 0, 0, 14)) (by decide +kernel) ⟨rfl, rfl⟩ (full := s_c_35) rfl rfl ?_
  intro hM hv Q hgo
  refine hgo.1 10 [] 0 _ _ _ ?_
  refine And.intro ?_ ?_
  · intro (c1 : x1 < x2)
    show post (some (0, 0, (-2147483648), 2147483647, x2)) M
    exact k1 c1
  · intro (c1 : x2 ≤ x1)
    show post (some (0, 0, (-2147483648), 2147483647, x1)) M
    exact k2 c1
theorem cx_34_1 {b : Bool} {A : Nat → Nat} {h0 : g_H} {d : Nat} {M : xa_M} {post : Option xa_V → xa_M → Prop} {l1 u1 l2 u2 : Int} {x1 x2 : Int} (h1 : 0 ≤ x1 ∧ x1 < 14) (k1 : (x2 < (M 3 x1)) → ((M 2 x1) < x2) → post none (xa_up M 4 x1 x2)) (k2 : (x2 < (M 3 x1)) → (x2 ≤ (M 2 x1)) → post none (xa_up M 4 x1 (M 2 x1))) (k3 : ((M 3 x1) ≤ x2) → ((M 2 x1) < (M 3 x1)) → post none (xa_up M 4 x1 (M 3 x1))) (k4 : ((M 3 x1) ≤ x2) → ((M 3 x1) ≤ (M 2 x1)) → post none (xa_up M 4 x1 (M 2 x1))) : xa_C (xl_I b) A h0 (d + 3) 34 [(2, 1, 0, 0, 0), (0, 0, l1, u1, x1), (0, 0, l2, u2, x2)] M post := by
  refine xa_C_arg [(2, 1, 0, 0, 0), (0, 0, (-2147483648), 2147483647, x1), (0, 0, (-2147483648), 2147483647, x2)] (xa_svR (xa_svI (fun _ _ _ _ => by omega) (xa_svI (fun _ _ _ _ => by omega) (xa_sv0)))) ?_
  refine xa_meth (Q0 := (3, 0, false, 0, 0, 1)) (by decide +kernel) ⟨rfl, rfl⟩ (full := s_c_34) rfl rfl ?_
  intro hM hv Q hgo
  refine hgo.1 18 [] 0 _ _ _ ?_
  show xa_C (xl_I b) A h0 _ 22 [(2, 1, 0, 0, 0), (0, 0, (-2147483648), 2147483647, x1)] M _
  refine cx_22_1 (show 0 ≤ x1 ∧ x1 < 14 by omega) ?_
  show xa_C (xl_I b) A h0 _ 25 [(2, 1, 0, 0, 0), (0, 0, (-2147483648), 2147483647, x1)] M _
  refine cx_25_1 (show 0 ≤ x1 ∧ x1 < 14 by omega) ?_
  show xa_C (xl_I b) A h0 _ 32 [(0, 0, 0, 400, M 3 x1), (0, 0, (-2147483648), 2147483647, x2)] M _
  refine cx_32 ?_ ?_
  · intro (i1 : x2 < (M 3 x1))
    show xa_C (xl_I b) A h0 _ 35 [(0, 0, (-2147483648), 2147483647, M 2 x1), (0, 0, (-2147483648), 2147483647, x2)] M _
    refine cx_35 ?_ ?_
    · intro (i2 : (M 2 x1) < x2)
      show xa_C (xl_I b) A h0 _ 18 [(2, 4, 0, 0, 0), (0, 0, (-2147483648), 2147483647, x1), (0, 0, (-2147483648), 2147483647, x2)] M _
      refine cx_18_4 (show 0 ≤ x1 ∧ x1 < 14 by omega) ?_
      show post none (xa_up M 4 x1 x2)
      exact k1 i1 i2
    · intro (i3 : x2 ≤ (M 2 x1))
      show xa_C (xl_I b) A h0 _ 18 [(2, 4, 0, 0, 0), (0, 0, (-2147483648), 2147483647, x1), (0, 0, (-2147483648), 2147483647, M 2 x1)] M _
      refine cx_18_4 (show 0 ≤ x1 ∧ x1 < 14 by omega) ?_
      show post none (xa_up M 4 x1 (M 2 x1))
      exact k2 i1 i3
  · intro (i4 : (M 3 x1) ≤ x2)
    show xa_C (xl_I b) A h0 _ 35 [(0, 0, (-2147483648), 2147483647, M 2 x1), (0, 0, (-2147483648), 2147483647, M 3 x1)] M _
    refine cx_35 ?_ ?_
    · intro (i5 : (M 2 x1) < (M 3 x1))
      show xa_C (xl_I b) A h0 _ 18 [(2, 4, 0, 0, 0), (0, 0, (-2147483648), 2147483647, x1), (0, 0, (-2147483648), 2147483647, M 3 x1)] M _
      refine cx_18_4 (show 0 ≤ x1 ∧ x1 < 14 by omega) ?_
      show post none (xa_up M 4 x1 (M 3 x1))
      exact k3 i4 i5
    · intro (i6 : (M 3 x1) ≤ (M 2 x1))
      show xa_C (xl_I b) A h0 _ 18 [(2, 4, 0, 0, 0), (0, 0, (-2147483648), 2147483647, x1), (0, 0, (-2147483648), 2147483647, M 2 x1)] M _
      refine cx_18_4 (show 0 ≤ x1 ∧ x1 < 14 by omega) ?_
      show post none (xa_up M 4 x1 (M 2 x1))
      exact k4 i4 i6
theorem cx_34w {b : Bool} {A : Nat → Nat} {h0 : g_H} {d : Nat} {M : xa_M} {post : Option xa_V → xa_M → Prop} {l1 u1 l2 u2 x1 x2 : Int} (h : 0 ≤ x1 ∧ x1 < 14) (k : ∀ v, post none (xa_up M 4 x1 v)) : xa_C (xl_I b) A h0 (d + 3) 34 [(2, 1, 0, 0, 0), (0, 0, l1, u1, x1), (0, 0, l2, u2, x2)] M post := cx_34_1 h (fun _ _ => k _) (fun _ _ => k _) (fun _ _ => k _) (fun _ _ => k _)
theorem cx_31w {b : Bool} {A : Nat → Nat} {h0 : g_H} {d : Nat} {M : xa_M} {post : Option xa_V → xa_M → Prop} (hn : 0 ≤ M 1 9 ∧ M 1 9 ≤ 14) (k : ∀ M1 : xa_M, (∀ q j, ¬ q = 4 → M1 q j = M q j) → post none M1) : xa_C (xl_I b) A h0 (d + 3) 31 [(2, 1, 0, 0, 0)] M post := by
  refine xa_C_arg [(2, 1, 0, 0, 0)] (xa_svR xa_sv0) ?_
  refine xa_meth (Q0 := (2, 0, false, 0, 0, 1)) (by decide +kernel) ⟨rfl, rfl⟩ (full := s_c_31) rfl rfl ?_
  intro hM hv Q hgo
  have loop : ∀ (n : Nat) (i : Int) (M1 : xa_M), 0 ≤ i → i ≤ 14 → (∀ q j, ¬ q = 4 → M1 q j = M q j) → 14 - i < (n : Int) → Q 2 [(1, (0, 0, 0, 14, i)), (0, (2, 1, 0, 0, 0))] [] M1 := by
    intro n
    induction n with
    | zero => intro i M1 h1 h2 hk hms; omega
    | succ n ih =>
      intro i M1 h1 h2 hk hms
      have e9 := hk 1 9 (by decide)
      refine hgo.1 18 [2] 2 _ _ _ ?_
      refine And.intro ?_ ?_
      · intro (c1 : (M1 1 9) ≤ i)
        show post none M1
        exact k _ hk
      · intro (c1 : i < (M1 1 9))
        show xa_C (xl_I b) A h0 _ 22 [(2, 1, 0, 0, 0), (0, 0, 0, 14, i)] M1 _
        refine cx_22_1 (show 0 ≤ i ∧ i < 14 by omega) ?_
        show xa_C (xl_I b) A h0 _ 18 [(2, 4, 0, 0, 0), (0, 0, 0, 14, i), (0, 0, (-2147483648), 2147483647, M1 2 i)] M1 _
        refine cx_18_4 (show 0 ≤ i ∧ i < 14 by omega) ?_
        show Q 2 [(1, (0, 0, 1, 15, i + 1)), (0, (2, 1, 0, 0, 0))] [] (xa_up M1 4 i (M1 2 i))
        refine hgo.2.1 2 _ [(1, (0, 0, 0, 14, i + 1)), (0, (2, 1, 0, 0, 0))] _ _ (xa_subI rfl rfl (fun _ _ _ _ => by omega) (xa_subR rfl (xa_sub0))) ?_
        exact ih (i + 1) (xa_up M1 4 i (M1 2 i)) (by omega) (by omega) (fun q j hq => (xa_up_ne (fun e => hq e.1)).trans (hk q j hq)) (by omega)
  refine hgo.1 7 [2] 0 _ _ _ ?_
  show Q 2 [(1, (0, 0, 0, 0, 0)), (0, (2, 1, 0, 0, 0))] [] M
  refine hgo.2.1 2 _ [(1, (0, 0, 0, 14, 0)), (0, (2, 1, 0, 0, 0))] _ _ (xa_subI rfl rfl (fun _ _ _ _ => by omega) (xa_subR rfl (xa_sub0))) ?_
  exact loop 15 0 M (by omega) (by omega) (fun _ _ _ => rfl) (by omega)
theorem cx_33 {b : Bool} {A : Nat → Nat} {h0 : g_H} {d : Nat} {M : xa_M} {post : Option xa_V → xa_M → Prop} {l0 u0 l1 u1 : Int} {x1 x2 : Int} (k1 : (¬ x1 = 0) → (¬ x1 = 1) → post (some (0, 0, (-2147483648), 2147483647, x2)) M) (k2 : (¬ x1 = 0) → (x1 = 1) → post (some (0, 0, (-32768), 32767, xa_i16 x2)) M) (k3 : (x1 = 0) → post (some (0, 0, (-128), 127, xa_i8 x2)) M) : xa_C (xl_I b) A h0 (d + 1) 33 [(0, 0, l0, u0, x1), (0, 0, l1, u1, x2)] M post := by
  refine xa_C_arg [(0, 0, (-2147483648), 2147483647, x1), (0, 0, (-2147483648), 2147483647, x2)] (xa_svI (fun _ _ _ _ => by omega) (xa_svI (fun _ _ _ _ => by omega) (xa_sv0))) ?_
  refine xa_meth (Q0 := (2, 1, false, 0, 0, 11)) (by decide +kernel) ⟨rfl, rfl⟩ (full := s_c_33) rfl rfl ?_
  intro hM hv Q hgo
  refine hgo.1 13 [] 0 _ _ _ ?_
  refine And.intro ?_ ?_
  · intro (c1 : ¬ x1 = 0)
    refine And.intro ?_ ?_
    · intro (c2 : ¬ x1 = 1)
      show post (some (0, 0, (-2147483648), 2147483647, x2)) M
      exact k1 c1 c2
    · intro (c2 : x1 = 1)
      show post (some (0, 0, (-32768), 32767, xa_i16 x2)) M
      exact k2 c1 c2
  · intro (c1 : x1 = 0)
    show post (some (0, 0, (-128), 127, xa_i8 x2)) M
    exact k3 c1
theorem cw_30 {b : Bool} {A : Nat → Nat} {h0 : g_H} {d : Nat} {M : xa_M} {post : Option xa_V → xa_M → Prop} {l1 u1 l2 u2 l3 u3 l4 u4 x1 x2 x3 x4 : Int} (hn : 0 ≤ M 1 9 ∧ M 1 9 ≤ 14) (k : ∀ (o : Option xa_V) (M1 : xa_M), (∃ lo hi, o = some (0, 0, lo, hi, ls_v x1 x2 (M 1 9))) → (∀ q j, ¬ q = 4 → M1 q j = M q j) → post o M1) : xa_C (xl_I b) A h0 (d + 4) 30 [(2, 0, 0, 0, 0), (0, 0, l1, u1, x1), (0, 0, l2, u2, x2), (0, 0, l3, u3, x3), (0, 0, l4, u4, x4)] M post := by
  refine xa_C_arg [(2, 0, 0, 0, 0), (0, 0, (-2147483648), 2147483647, x1), (0, 0, (-2147483648), 2147483647, x2), (0, 0, (-2147483648), 2147483647, x3), (0, 0, (-2147483648), 2147483647, x4)] (xa_svR (xa_svI (fun _ _ _ _ => by omega) (xa_svI (fun _ _ _ _ => by omega) (xa_svI (fun _ _ _ _ => by omega) (xa_svI (fun _ _ _ _ => by omega) (xa_sv0)))))) ?_
  refine xa_meth (Q0 := (7, 1, false, 0, 0, 11)) (by decide +kernel) ⟨rfl, rfl⟩ (full := s_c_30) rfl rfl ?_
  intro hM hv Q hgo
  have loop : ∀ (hd : Int), hd ≤ 14 → (∀ (o : Option xa_V) (M1 : xa_M), (∃ lo hi, o = some (0, 0, lo, hi, hd)) → (∀ q j, ¬ q = 4 → M1 q j = M q j) → post o M1) → ∀ (n : Nat) (i : Int) (M1 : xa_M), 0 ≤ i → i ≤ 14 → (∀ q j, ¬ q = 4 → M1 q j = M q j) → 14 - i < (n : Int) → Q 55 [(6, (0, 0, 0, 14, i)), (5, (0, 0, (-2147483648), 14, hd)), (4, (0, 0, (-2147483648), 2147483647, x4)), (3, (0, 0, (-2147483648), 2147483647, x3)), (1, (0, 0, (-2147483648), 2147483647, x1)), (0, (2, 0, 0, 0, 0))] [] M1 := by
    intro hd hhd k n
    induction n with
    | zero => intro i M1 h1 h2 hk hms; omega
    | succ n ih =>
      intro i M1 h1 h2 hk hms
      refine hgo.1 21 [55] 55 _ _ _ ?_
      refine And.intro ?_ ?_
      · intro (c1 : hd ≤ i)
        show post (some (0, 0, (-2147483648), 14, hd)) M1
        exact k _ _ ⟨_, _, rfl⟩ hk
      · intro (c1 : i < hd)
        show xa_C (xl_I b) A h0 _ 33 [(0, 0, (-2147483648), 2147483647, x1), (0, 0, (-2147483648), 2147483647, xa_w32 (x3 + (xa_w32 (i * x4))))] M1 _
        refine cx_33 ?_ ?_ ?_
        · intro (i2 : ¬ x1 = 0) (i3 : ¬ x1 = 1)
          show xa_C (xl_I b) A h0 _ 34 [(2, 1, 0, 0, 0), (0, 0, 0, 14, i), (0, 0, (-2147483648), 2147483647, xa_w32 (x3 + (xa_w32 (i * x4))))] M1 _
          refine cx_34w (show 0 ≤ i ∧ i < 14 by omega) ?_
          intro v101
          show Q 55 [(6, (0, 0, 1, 15, i + 1)), (5, (0, 0, (-2147483648), 14, hd)), (4, (0, 0, (-2147483648), 2147483647, x4)), (3, (0, 0, (-2147483648), 2147483647, x3)), (1, (0, 0, (-2147483648), 2147483647, x1)), (0, (2, 0, 0, 0, 0))] [] (xa_up M1 4 i v101)
          refine hgo.2.1 55 _ [(6, (0, 0, 0, 14, i + 1)), (5, (0, 0, (-2147483648), 14, hd)), (4, (0, 0, (-2147483648), 2147483647, x4)), (3, (0, 0, (-2147483648), 2147483647, x3)), (1, (0, 0, (-2147483648), 2147483647, x1)), (0, (2, 0, 0, 0, 0))] _ _ (xa_subI rfl rfl (fun _ _ _ _ => by omega) (xa_subI rfl rfl (fun _ _ _ _ => by omega) (xa_subI rfl rfl (fun _ _ _ _ => by omega) (xa_subI rfl rfl (fun _ _ _ _ => by omega) (xa_subI rfl rfl (fun _ _ _ _ => by omega) (xa_subR rfl (xa_sub0))))))) ?_
          exact ih (i + 1) (xa_up M1 4 i v101) (by omega) (by omega) (fun q j hq => (xa_up_ne (fun e => hq e.1)).trans (hk q j hq)) (by omega)
        · intro (i4 : ¬ x1 = 0) (i5 : x1 = 1)
          show xa_C (xl_I b) A h0 _ 34 [(2, 1, 0, 0, 0), (0, 0, 0, 14, i), (0, 0, (-32768), 32767, xa_i16 (xa_w32 (x3 + (xa_w32 (i * x4)))))] M1 _
          refine cx_34w (show 0 ≤ i ∧ i < 14 by omega) ?_
          intro v102
          show Q 55 [(6, (0, 0, 1, 15, i + 1)), (5, (0, 0, (-2147483648), 14, hd)), (4, (0, 0, (-2147483648), 2147483647, x4)), (3, (0, 0, (-2147483648), 2147483647, x3)), (1, (0, 0, (-2147483648), 2147483647, x1)), (0, (2, 0, 0, 0, 0))] [] (xa_up M1 4 i v102)
          refine hgo.2.1 55 _ [(6, (0, 0, 0, 14, i + 1)), (5, (0, 0, (-2147483648), 14, hd)), (4, (0, 0, (-2147483648), 2147483647, x4)), (3, (0, 0, (-2147483648), 2147483647, x3)), (1, (0, 0, (-2147483648), 2147483647, x1)), (0, (2, 0, 0, 0, 0))] _ _ (xa_subI rfl rfl (fun _ _ _ _ => by omega) (xa_subI rfl rfl (fun _ _ _ _ => by omega) (xa_subI rfl rfl (fun _ _ _ _ => by omega) (xa_subI rfl rfl (fun _ _ _ _ => by omega) (xa_subI rfl rfl (fun _ _ _ _ => by omega) (xa_subR rfl (xa_sub0))))))) ?_
          exact ih (i + 1) (xa_up M1 4 i v102) (by omega) (by omega) (fun q j hq => (xa_up_ne (fun e => hq e.1)).trans (hk q j hq)) (by omega)
        · intro (i6 : x1 = 0)
          show xa_C (xl_I b) A h0 _ 34 [(2, 1, 0, 0, 0), (0, 0, 0, 14, i), (0, 0, (-128), 127, xa_i8 (xa_w32 (x3 + (xa_w32 (i * x4)))))] M1 _
          refine cx_34w (show 0 ≤ i ∧ i < 14 by omega) ?_
          intro v103
          show Q 55 [(6, (0, 0, 1, 15, i + 1)), (5, (0, 0, (-2147483648), 14, hd)), (4, (0, 0, (-2147483648), 2147483647, x4)), (3, (0, 0, (-2147483648), 2147483647, x3)), (1, (0, 0, (-2147483648), 2147483647, x1)), (0, (2, 0, 0, 0, 0))] [] (xa_up M1 4 i v103)
          refine hgo.2.1 55 _ [(6, (0, 0, 0, 14, i + 1)), (5, (0, 0, (-2147483648), 14, hd)), (4, (0, 0, (-2147483648), 2147483647, x4)), (3, (0, 0, (-2147483648), 2147483647, x3)), (1, (0, 0, (-2147483648), 2147483647, x1)), (0, (2, 0, 0, 0, 0))] _ _ (xa_subI rfl rfl (fun _ _ _ _ => by omega) (xa_subI rfl rfl (fun _ _ _ _ => by omega) (xa_subI rfl rfl (fun _ _ _ _ => by omega) (xa_subI rfl rfl (fun _ _ _ _ => by omega) (xa_subI rfl rfl (fun _ _ _ _ => by omega) (xa_subR rfl (xa_sub0))))))) ?_
          exact ih (i + 1) (xa_up M1 4 i v103) (by omega) (by omega) (fun q j hq => (xa_up_ne (fun e => hq e.1)).trans (hk q j hq)) (by omega)
  refine hgo.1 26 [55] 0 _ _ _ ?_
  refine And.intro ?_ ?_
  · intro (c1 : x1 < 0)
    show post (some (0, 0, (-1), (-1), (-1))) M
    exact k _ _ (iv_so (ls_e (by omega))) (fun _ _ _ => rfl)
  · intro (c1 : 0 ≤ x1)
    refine And.intro ?_ ?_
    · intro (c2 : 3 < x1)
      show post (some (0, 0, (-1), (-1), (-1))) M
      exact k _ _ (iv_so (ls_e (by omega))) (fun _ _ _ => rfl)
    · intro (c2 : x1 ≤ 3)
      refine And.intro ?_ ?_
      · intro (c3 : x2 ≤ 14)
        refine And.intro ?_ ?_
        · intro (c4 : ¬ x1 = 3)
          refine And.intro ?_ ?_
          · intro (c5 : 0 ≤ x2)
            show xa_C (xl_I b) A h0 _ 32 [(0, 0, (-2147483648), 2147483647, x2), (0, 0, (-2147483648), 2147483647, M 1 9)] M _
            refine cx_32 ?_ ?_
            · intro (i6 : (M 1 9) < x2)
              show Q 55 [(6, (0, 0, 0, 0, 0)), (5, (0, 0, (-2147483648), 2147483647, M 1 9)), (0, (2, 0, 0, 0, 0)), (1, (0, 0, (-2147483648), 2147483647, x1)), (2, (0, 0, (-2147483648), 2147483647, x2)), (3, (0, 0, (-2147483648), 2147483647, x3)), (4, (0, 0, (-2147483648), 2147483647, x4))] [] M
              have loop := loop (M 1 9) (by omega)
              refine hgo.2.1 55 _ [(6, (0, 0, 0, 14, 0)), (5, (0, 0, (-2147483648), 14, M 1 9)), (4, (0, 0, (-2147483648), 2147483647, x4)), (3, (0, 0, (-2147483648), 2147483647, x3)), (1, (0, 0, (-2147483648), 2147483647, x1)), (0, (2, 0, 0, 0, 0))] _ _ (xa_subI rfl rfl (fun _ _ _ _ => by omega) (xa_subI rfl rfl (fun _ _ _ _ => by omega) (xa_subI rfl rfl (fun _ _ _ _ => by omega) (xa_subI rfl rfl (fun _ _ _ _ => by omega) (xa_subI rfl rfl (fun _ _ _ _ => by omega) (xa_subR rfl (xa_sub0))))))) ?_
              exact loop (fun o M1 ho hk => k _ _ (by obtain ⟨lo, hi, rfl⟩ := ho; exact (iv_so (ls_e (by omega)))) hk) 15 0 M (by omega) (by omega) (fun _ _ _ => rfl) (by omega)
            · intro (i7 : x2 ≤ (M 1 9))
              show Q 55 [(6, (0, 0, 0, 0, 0)), (5, (0, 0, (-2147483648), 2147483647, x2)), (0, (2, 0, 0, 0, 0)), (1, (0, 0, (-2147483648), 2147483647, x1)), (2, (0, 0, (-2147483648), 2147483647, x2)), (3, (0, 0, (-2147483648), 2147483647, x3)), (4, (0, 0, (-2147483648), 2147483647, x4))] [] M
              have loop := loop x2 (by omega)
              refine hgo.2.1 55 _ [(6, (0, 0, 0, 14, 0)), (5, (0, 0, (-2147483648), 14, x2)), (4, (0, 0, (-2147483648), 2147483647, x4)), (3, (0, 0, (-2147483648), 2147483647, x3)), (1, (0, 0, (-2147483648), 2147483647, x1)), (0, (2, 0, 0, 0, 0))] _ _ (xa_subI rfl rfl (fun _ _ _ _ => by omega) (xa_subI rfl rfl (fun _ _ _ _ => by omega) (xa_subI rfl rfl (fun _ _ _ _ => by omega) (xa_subI rfl rfl (fun _ _ _ _ => by omega) (xa_subI rfl rfl (fun _ _ _ _ => by omega) (xa_subR rfl (xa_sub0))))))) ?_
              exact loop (fun o M1 ho hk => k _ _ (by obtain ⟨lo, hi, rfl⟩ := ho; exact (iv_so (ls_e (by omega)))) hk) 15 0 M (by omega) (by omega) (fun _ _ _ => rfl) (by omega)
          · intro (c5 : x2 < 0)
            show post (some (0, 0, (-2), (-2), (-2))) M
            exact k _ _ (iv_so (ls_e (by omega))) (fun _ _ _ => rfl)
        · intro (c4 : x1 = 3)
          show xa_C (xl_I b) A h0 _ 31 [(2, 1, 0, 0, 0)] M _
          refine cx_31w (show 0 ≤ M 1 9 ∧ M 1 9 ≤ 14 by omega) ?_
          intro M104 (i8 : ∀ q j, ¬ q = 4 → M104 q j = M q j)
          show post (some (0, 0, (-3), (-3), (-3))) M104
          exact k _ _ (iv_so (ls_e (by omega))) i8
      · intro (c3 : 14 < x2)
        show post (some (0, 0, (-1), (-1), (-1))) M
        exact k _ _ (iv_so (ls_e (by omega))) (fun _ _ _ => rfl)
theorem ms_sheetF {A : Nat → Nat} {h0 : g_H} {d : Nat} {M : xa_M} {post : Option xa_V → xa_M → Prop} {l1 u1 l2 u2 l3 u3 l4 u4 : Int} {a b c e : Int} (hI : xm_Inv M) (k : ∀ (o : Option xa_V) (M1 : xa_M), (∃ lo hi, o = some (0, 0, lo, hi, ls_v a b (M 60 0))) → xk_U M M1 → xm_Inv M1 → post o M1) : xa_C xm_I A h0 (d + 3) 219 [(2, 60, 0, 0, 0), (0, 0, l1, u1, a), (0, 0, l2, u2, b), (0, 0, l3, u3, c), (0, 0, l4, u4, e)] M post := by
  refine xa_C_arg [(2, 60, 0, 0, 0), (0, 0, (-2147483648), 2147483647, a), (0, 0, (-2147483648), 2147483647, b), (0, 0, (-2147483648), 2147483647, c), (0, 0, (-2147483648), 2147483647, e)] (xa_svR (xa_svI (fun _ _ _ _ => by omega) (xa_svI (fun _ _ _ _ => by omega) (xa_svI (fun _ _ _ _ => by omega) (xa_svI (fun _ _ _ _ => by omega) xa_sv0))))) ?_
  refine xa_meth (Q0 := (9, 1, false, 0, 0, 12)) (by decide +kernel) ⟨rfl, rfl⟩ (full := s_c_219) rfl rfl ?_
  intro hM hv Q hgo
  have b0 := xm_f0 hM
  have b6 := xm_f6 hM
  have loop : ∀ (n : Nat) (w v t : Int) (M1 : xa_M), 0 ≤ w → w ≤ 14 → (∀ q j, ¬ xm_scr q j → ¬ q = 63 → M1 q j = M q j) → (∀ x, 0 ≤ x → x < M 60 0 → 10 ≤ M1 63 x) → (t = w ∧ w ≤ M 60 0 ∧ (a = 3 ∨ w ≤ b) ∧ 0 ≤ a ∧ a ≤ 3 ∧ b ≤ 14) → 14 - w < (n : Int) → Q 43 [(7, (0, 0, 0, 14, w)), (6, (0, 0, (-2147483648), 2147483647, v)), (5, (0, 0, (-2147483648), 2147483647, t)), (4, (0, 0, (-2147483648), 2147483647, e)), (2, (0, 0, (-2147483648), 14, b)), (1, (0, 0, 0, 3, a)), (0, (2, 60, 0, 0, 0))] [] M1 := by
    intro n
    induction n with
    | zero => intro w v t M1 h1 h2 hs ht hz hms; omega
    | succ n ih =>
      intro w v t M1 h1 h2 hs ht hz hms
      refine hgo.2.2 _ _ _ _ (fun hM1 _ => ?_)
      have e0 := hs 60 0 (by omega) (by omega)
      have a1 := hs 61 w (by omega) (by omega)
      have hw := hI.1 w h1
      have t61 : w < 14 → 0 ≤ M1 61 w ∧ M1 61 w ≤ 400 := xm_t61 hM1 w h1
      refine hgo.1 49 [43] 43 _ _ _ ?_
      refine And.intro ?_ ?_
      · intro (c1 : (M1 60 0) ≤ w)
        refine And.intro ?_ ?_
        · intro (c2 : ¬ a = 3)
          show post (some (0, 0, (-2147483648), 2147483647, t)) M1
          exact k _ _ (iv_so (ls_e (by omega))) (fun q j hq => by have hq2 := xk_eq hq; exact hs q j (by omega) (by omega)) (xm_Inv_b (M := M) (fun j => hs 104 j (by omega) (by omega)) (fun j => hs 105 j (by omega) (by omega)) hI (fun x x0 x1 => by
            rw [e0] at x1
            rw [hs 61 x (by omega) (by omega), hs 62 x (by omega) (by omega)]
            have h := hI.1 x x0 x1
            exact ⟨h.1, h.2.1, ht x x0 x1⟩) (fun m m0 m1 => by
            rw [hs 60 6 (by omega) (by omega)] at m1
            rw [hs 66 m (by omega) (by omega), hs 67 m (by omega) (by omega), e0]
            exact hI.2.1 m m0 m1) (fun p p0 p1 => by
            rw [hs 60 11 (by omega) (by omega)] at p1
            rw [hs 70 p (by omega) (by omega), hs 71 p (by omega) (by omega)]
            exact hI.2.2.1 p p0 p1) (by
            rw [hs 60 15 (by omega) (by omega), hs 60 16 (by omega) (by omega)]
            exact hI.2.2.2.1))
        · intro (c2 : a = 3)
          show post (some (0, 0, (-3), (-3), (-3))) M1
          exact k _ _ (iv_so (ls_e (by omega))) (fun q j hq => by have hq2 := xk_eq hq; exact hs q j (by omega) (by omega)) (xm_Inv_b (M := M) (fun j => hs 104 j (by omega) (by omega)) (fun j => hs 105 j (by omega) (by omega)) hI (fun x x0 x1 => by
            rw [e0] at x1
            rw [hs 61 x (by omega) (by omega), hs 62 x (by omega) (by omega)]
            have h := hI.1 x x0 x1
            exact ⟨h.1, h.2.1, ht x x0 x1⟩) (fun m m0 m1 => by
            rw [hs 60 6 (by omega) (by omega)] at m1
            rw [hs 66 m (by omega) (by omega), hs 67 m (by omega) (by omega), e0]
            exact hI.2.1 m m0 m1) (fun p p0 p1 => by
            rw [hs 60 11 (by omega) (by omega)] at p1
            rw [hs 70 p (by omega) (by omega), hs 71 p (by omega) (by omega)]
            exact hI.2.2.1 p p0 p1) (by
            rw [hs 60 15 (by omega) (by omega), hs 60 16 (by omega) (by omega)]
            exact hI.2.2.2.1))
      · intro (c1 : w < (M1 60 0))
        refine And.intro ?_ ?_
        · intro (c3 : a = 3)
          refine And.intro ?_ ?_
          · intro (c4 : ¬ a = 0)
            refine And.intro ?_ ?_
            · intro (c5 : ¬ a = 1)
              refine And.intro ?_ ?_
              · intro (c6 : ¬ a = 3)
                refine And.intro (show 0 ≤ w ∧ w < 14 by omega) ?_
                refine And.intro (show 0 ≤ w ∧ w < 14 by omega) ?_
                show xa_C xm_I A h0 _ 32 [(0, 0, 0, 400, M1 62 w), (0, 0, (-2147483648), 2147483647, v)] M1 _
                refine ct_min (-2147483648) 400 (by decide) (by decide) (by decide) (fun r7 br7 er7 => ?_)
                show xa_C xm_I A h0 _ 35 [(0, 0, 0, 400, M1 61 w), (0, 0, (-2147483648), 400, r7)] M1 _
                refine ct_max 0 400 (by decide) (by decide) (by decide) (fun r8 br8 er8 => ?_)
                refine And.intro (show 0 ≤ w ∧ w < 14 by omega) ?_
                show Q 43 [(7, (0, 0, 1, 15, w + 1)), (5, (0, 0, (-2147483648), 2147483647, xa_w32 (t + 1))), (6, (0, 0, (-2147483648), 2147483647, xa_w32 (v + e))), (8, (0, 0, (-2147483648), 2147483647, v)), (4, (0, 0, (-2147483648), 2147483647, e)), (2, (0, 0, (-2147483648), 14, b)), (1, (0, 0, 0, 3, a)), (0, (2, 60, 0, 0, 0))] [] (xa_up M1 63 w r8)
                refine hgo.2.1 43 _ [(7, (0, 0, 0, 14, w + 1)), (6, (0, 0, (-2147483648), 2147483647, xa_w32 (v + e))), (5, (0, 0, (-2147483648), 2147483647, xa_w32 (t + 1))), (4, (0, 0, (-2147483648), 2147483647, e)), (2, (0, 0, (-2147483648), 14, b)), (1, (0, 0, 0, 3, a)), (0, (2, 60, 0, 0, 0))] _ _ (xa_subI rfl rfl (fun _ _ _ _ => by omega) (xa_subI rfl rfl (fun _ _ _ _ => by omega) (xa_subI rfl rfl (fun _ _ _ _ => by omega) (xa_subI rfl rfl (fun _ _ _ _ => by omega) (xa_subI rfl rfl (fun _ _ _ _ => by omega) (xa_subI rfl rfl (fun _ _ _ _ => by omega) (xa_subR rfl xa_sub0))))))) ?_
                exact ih (w + 1) (xa_w32 (v + e)) (xa_w32 (t + 1)) (xa_up M1 63 w r8) (by omega) (by omega) (fun q j hn hq => by
                  rw [xa_up_ne (fun e => hq e.1)]
                  exact hs q j hn hq) (fun x x0 x1 => by
                  by_cases e : x = w
                  · subst e
                    simp [xa_up]
                    omega
                  · simp [xa_up, e]
                    exact ht x x0 x1) (by have e9 := xa_w32_id (n := t + 1) (by omega) (by omega); omega) (by omega)
              · intro (c6 : a = 3)
                refine And.intro (show 0 ≤ w ∧ w < 14 by omega) ?_
                refine And.intro (show 0 ≤ w ∧ w < 14 by omega) ?_
                show Q 43 [(7, (0, 0, 1, 15, w + 1)), (5, (0, 0, (-2147483648), 2147483647, xa_w32 (t + 1))), (6, (0, 0, (-2147483648), 2147483647, xa_w32 (v + e))), (8, (0, 0, (-2147483648), 2147483647, v)), (4, (0, 0, (-2147483648), 2147483647, e)), (2, (0, 0, (-2147483648), 14, b)), (1, (0, 0, 0, 3, a)), (0, (2, 60, 0, 0, 0))] [] (xa_up M1 63 w (M1 61 w))
                refine hgo.2.1 43 _ [(7, (0, 0, 0, 14, w + 1)), (6, (0, 0, (-2147483648), 2147483647, xa_w32 (v + e))), (5, (0, 0, (-2147483648), 2147483647, xa_w32 (t + 1))), (4, (0, 0, (-2147483648), 2147483647, e)), (2, (0, 0, (-2147483648), 14, b)), (1, (0, 0, 0, 3, a)), (0, (2, 60, 0, 0, 0))] _ _ (xa_subI rfl rfl (fun _ _ _ _ => by omega) (xa_subI rfl rfl (fun _ _ _ _ => by omega) (xa_subI rfl rfl (fun _ _ _ _ => by omega) (xa_subI rfl rfl (fun _ _ _ _ => by omega) (xa_subI rfl rfl (fun _ _ _ _ => by omega) (xa_subI rfl rfl (fun _ _ _ _ => by omega) (xa_subR rfl xa_sub0))))))) ?_
                exact ih (w + 1) (xa_w32 (v + e)) (xa_w32 (t + 1)) (xa_up M1 63 w (M1 61 w)) (by omega) (by omega) (fun q j hn hq => by
                  rw [xa_up_ne (fun e => hq e.1)]
                  exact hs q j hn hq) (fun x x0 x1 => by
                  by_cases e : x = w
                  · subst e
                    simp [xa_up]
                    omega
                  · simp [xa_up, e]
                    exact ht x x0 x1) (by have e9 := xa_w32_id (n := t + 1) (by omega) (by omega); omega) (by omega)
            · intro (c5 : a = 1)
              refine And.intro ?_ ?_
              · intro (c9 : ¬ a = 3)
                refine And.intro (show 0 ≤ w ∧ w < 14 by omega) ?_
                refine And.intro (show 0 ≤ w ∧ w < 14 by omega) ?_
                show xa_C xm_I A h0 _ 32 [(0, 0, 0, 400, M1 62 w), (0, 0, (-32768), 32767, xa_i16 v)] M1 _
                refine ct_min (-32768) 400 (by decide) (by decide) (by decide) (fun r10 br10 er10 => ?_)
                show xa_C xm_I A h0 _ 35 [(0, 0, 0, 400, M1 61 w), (0, 0, (-32768), 400, r10)] M1 _
                refine ct_max 0 400 (by decide) (by decide) (by decide) (fun r11 br11 er11 => ?_)
                refine And.intro (show 0 ≤ w ∧ w < 14 by omega) ?_
                show Q 43 [(7, (0, 0, 1, 15, w + 1)), (5, (0, 0, (-2147483648), 2147483647, xa_w32 (t + 1))), (6, (0, 0, (-2147483648), 2147483647, xa_w32 (v + e))), (8, (0, 0, (-32768), 32767, xa_i16 v)), (4, (0, 0, (-2147483648), 2147483647, e)), (2, (0, 0, (-2147483648), 14, b)), (1, (0, 0, 0, 3, a)), (0, (2, 60, 0, 0, 0))] [] (xa_up M1 63 w r11)
                refine hgo.2.1 43 _ [(7, (0, 0, 0, 14, w + 1)), (6, (0, 0, (-2147483648), 2147483647, xa_w32 (v + e))), (5, (0, 0, (-2147483648), 2147483647, xa_w32 (t + 1))), (4, (0, 0, (-2147483648), 2147483647, e)), (2, (0, 0, (-2147483648), 14, b)), (1, (0, 0, 0, 3, a)), (0, (2, 60, 0, 0, 0))] _ _ (xa_subI rfl rfl (fun _ _ _ _ => by omega) (xa_subI rfl rfl (fun _ _ _ _ => by omega) (xa_subI rfl rfl (fun _ _ _ _ => by omega) (xa_subI rfl rfl (fun _ _ _ _ => by omega) (xa_subI rfl rfl (fun _ _ _ _ => by omega) (xa_subI rfl rfl (fun _ _ _ _ => by omega) (xa_subR rfl xa_sub0))))))) ?_
                exact ih (w + 1) (xa_w32 (v + e)) (xa_w32 (t + 1)) (xa_up M1 63 w r11) (by omega) (by omega) (fun q j hn hq => by
                  rw [xa_up_ne (fun e => hq e.1)]
                  exact hs q j hn hq) (fun x x0 x1 => by
                  by_cases e : x = w
                  · subst e
                    simp [xa_up]
                    omega
                  · simp [xa_up, e]
                    exact ht x x0 x1) (by have e9 := xa_w32_id (n := t + 1) (by omega) (by omega); omega) (by omega)
              · intro (c9 : a = 3)
                refine And.intro (show 0 ≤ w ∧ w < 14 by omega) ?_
                refine And.intro (show 0 ≤ w ∧ w < 14 by omega) ?_
                show Q 43 [(7, (0, 0, 1, 15, w + 1)), (5, (0, 0, (-2147483648), 2147483647, xa_w32 (t + 1))), (6, (0, 0, (-2147483648), 2147483647, xa_w32 (v + e))), (8, (0, 0, (-32768), 32767, xa_i16 v)), (4, (0, 0, (-2147483648), 2147483647, e)), (2, (0, 0, (-2147483648), 14, b)), (1, (0, 0, 0, 3, a)), (0, (2, 60, 0, 0, 0))] [] (xa_up M1 63 w (M1 61 w))
                refine hgo.2.1 43 _ [(7, (0, 0, 0, 14, w + 1)), (6, (0, 0, (-2147483648), 2147483647, xa_w32 (v + e))), (5, (0, 0, (-2147483648), 2147483647, xa_w32 (t + 1))), (4, (0, 0, (-2147483648), 2147483647, e)), (2, (0, 0, (-2147483648), 14, b)), (1, (0, 0, 0, 3, a)), (0, (2, 60, 0, 0, 0))] _ _ (xa_subI rfl rfl (fun _ _ _ _ => by omega) (xa_subI rfl rfl (fun _ _ _ _ => by omega) (xa_subI rfl rfl (fun _ _ _ _ => by omega) (xa_subI rfl rfl (fun _ _ _ _ => by omega) (xa_subI rfl rfl (fun _ _ _ _ => by omega) (xa_subI rfl rfl (fun _ _ _ _ => by omega) (xa_subR rfl xa_sub0))))))) ?_
                exact ih (w + 1) (xa_w32 (v + e)) (xa_w32 (t + 1)) (xa_up M1 63 w (M1 61 w)) (by omega) (by omega) (fun q j hn hq => by
                  rw [xa_up_ne (fun e => hq e.1)]
                  exact hs q j hn hq) (fun x x0 x1 => by
                  by_cases e : x = w
                  · subst e
                    simp [xa_up]
                    omega
                  · simp [xa_up, e]
                    exact ht x x0 x1) (by have e9 := xa_w32_id (n := t + 1) (by omega) (by omega); omega) (by omega)
          · intro (c4 : a = 0)
            refine And.intro ?_ ?_
            · intro (c12 : ¬ a = 3)
              refine And.intro (show 0 ≤ w ∧ w < 14 by omega) ?_
              refine And.intro (show 0 ≤ w ∧ w < 14 by omega) ?_
              show xa_C xm_I A h0 _ 32 [(0, 0, 0, 400, M1 62 w), (0, 0, (-128), 127, xa_i8 v)] M1 _
              refine ct_min (-128) 127 (by decide) (by decide) (by decide) (fun r13 br13 er13 => ?_)
              show xa_C xm_I A h0 _ 35 [(0, 0, 0, 400, M1 61 w), (0, 0, (-128), 127, r13)] M1 _
              refine ct_max 0 400 (by decide) (by decide) (by decide) (fun r14 br14 er14 => ?_)
              refine And.intro (show 0 ≤ w ∧ w < 14 by omega) ?_
              show Q 43 [(7, (0, 0, 1, 15, w + 1)), (5, (0, 0, (-2147483648), 2147483647, xa_w32 (t + 1))), (6, (0, 0, (-2147483648), 2147483647, xa_w32 (v + e))), (8, (0, 0, (-128), 127, xa_i8 v)), (4, (0, 0, (-2147483648), 2147483647, e)), (2, (0, 0, (-2147483648), 14, b)), (1, (0, 0, 0, 3, a)), (0, (2, 60, 0, 0, 0))] [] (xa_up M1 63 w r14)
              refine hgo.2.1 43 _ [(7, (0, 0, 0, 14, w + 1)), (6, (0, 0, (-2147483648), 2147483647, xa_w32 (v + e))), (5, (0, 0, (-2147483648), 2147483647, xa_w32 (t + 1))), (4, (0, 0, (-2147483648), 2147483647, e)), (2, (0, 0, (-2147483648), 14, b)), (1, (0, 0, 0, 3, a)), (0, (2, 60, 0, 0, 0))] _ _ (xa_subI rfl rfl (fun _ _ _ _ => by omega) (xa_subI rfl rfl (fun _ _ _ _ => by omega) (xa_subI rfl rfl (fun _ _ _ _ => by omega) (xa_subI rfl rfl (fun _ _ _ _ => by omega) (xa_subI rfl rfl (fun _ _ _ _ => by omega) (xa_subI rfl rfl (fun _ _ _ _ => by omega) (xa_subR rfl xa_sub0))))))) ?_
              exact ih (w + 1) (xa_w32 (v + e)) (xa_w32 (t + 1)) (xa_up M1 63 w r14) (by omega) (by omega) (fun q j hn hq => by
                rw [xa_up_ne (fun e => hq e.1)]
                exact hs q j hn hq) (fun x x0 x1 => by
                by_cases e : x = w
                · subst e
                  simp [xa_up]
                  omega
                · simp [xa_up, e]
                  exact ht x x0 x1) (by have e9 := xa_w32_id (n := t + 1) (by omega) (by omega); omega) (by omega)
            · intro (c12 : a = 3)
              refine And.intro (show 0 ≤ w ∧ w < 14 by omega) ?_
              refine And.intro (show 0 ≤ w ∧ w < 14 by omega) ?_
              show Q 43 [(7, (0, 0, 1, 15, w + 1)), (5, (0, 0, (-2147483648), 2147483647, xa_w32 (t + 1))), (6, (0, 0, (-2147483648), 2147483647, xa_w32 (v + e))), (8, (0, 0, (-128), 127, xa_i8 v)), (4, (0, 0, (-2147483648), 2147483647, e)), (2, (0, 0, (-2147483648), 14, b)), (1, (0, 0, 0, 3, a)), (0, (2, 60, 0, 0, 0))] [] (xa_up M1 63 w (M1 61 w))
              refine hgo.2.1 43 _ [(7, (0, 0, 0, 14, w + 1)), (6, (0, 0, (-2147483648), 2147483647, xa_w32 (v + e))), (5, (0, 0, (-2147483648), 2147483647, xa_w32 (t + 1))), (4, (0, 0, (-2147483648), 2147483647, e)), (2, (0, 0, (-2147483648), 14, b)), (1, (0, 0, 0, 3, a)), (0, (2, 60, 0, 0, 0))] _ _ (xa_subI rfl rfl (fun _ _ _ _ => by omega) (xa_subI rfl rfl (fun _ _ _ _ => by omega) (xa_subI rfl rfl (fun _ _ _ _ => by omega) (xa_subI rfl rfl (fun _ _ _ _ => by omega) (xa_subI rfl rfl (fun _ _ _ _ => by omega) (xa_subI rfl rfl (fun _ _ _ _ => by omega) (xa_subR rfl xa_sub0))))))) ?_
              exact ih (w + 1) (xa_w32 (v + e)) (xa_w32 (t + 1)) (xa_up M1 63 w (M1 61 w)) (by omega) (by omega) (fun q j hn hq => by
                rw [xa_up_ne (fun e => hq e.1)]
                exact hs q j hn hq) (fun x x0 x1 => by
                by_cases e : x = w
                · subst e
                  simp [xa_up]
                  omega
                · simp [xa_up, e]
                  exact ht x x0 x1) (by have e9 := xa_w32_id (n := t + 1) (by omega) (by omega); omega) (by omega)
        · intro (c3 : ¬ a = 3)
          refine And.intro ?_ ?_
          · intro (c15 : b ≤ w)
            refine And.intro ?_ ?_
            · intro (c16 : ¬ a = 3)
              show post (some (0, 0, (-2147483648), 2147483647, t)) M1
              exact k _ _ (iv_so (ls_e (by omega))) (fun q j hq => by have hq2 := xk_eq hq; exact hs q j (by omega) (by omega)) (xm_Inv_b (M := M) (fun j => hs 104 j (by omega) (by omega)) (fun j => hs 105 j (by omega) (by omega)) hI (fun x x0 x1 => by
                rw [e0] at x1
                rw [hs 61 x (by omega) (by omega), hs 62 x (by omega) (by omega)]
                have h := hI.1 x x0 x1
                exact ⟨h.1, h.2.1, ht x x0 x1⟩) (fun m m0 m1 => by
                rw [hs 60 6 (by omega) (by omega)] at m1
                rw [hs 66 m (by omega) (by omega), hs 67 m (by omega) (by omega), e0]
                exact hI.2.1 m m0 m1) (fun p p0 p1 => by
                rw [hs 60 11 (by omega) (by omega)] at p1
                rw [hs 70 p (by omega) (by omega), hs 71 p (by omega) (by omega)]
                exact hI.2.2.1 p p0 p1) (by
                rw [hs 60 15 (by omega) (by omega), hs 60 16 (by omega) (by omega)]
                exact hI.2.2.2.1))
            · intro (c16 : a = 3)
              show post (some (0, 0, (-3), (-3), (-3))) M1
              exact k _ _ (iv_so (ls_e (by omega))) (fun q j hq => by have hq2 := xk_eq hq; exact hs q j (by omega) (by omega)) (xm_Inv_b (M := M) (fun j => hs 104 j (by omega) (by omega)) (fun j => hs 105 j (by omega) (by omega)) hI (fun x x0 x1 => by
                rw [e0] at x1
                rw [hs 61 x (by omega) (by omega), hs 62 x (by omega) (by omega)]
                have h := hI.1 x x0 x1
                exact ⟨h.1, h.2.1, ht x x0 x1⟩) (fun m m0 m1 => by
                rw [hs 60 6 (by omega) (by omega)] at m1
                rw [hs 66 m (by omega) (by omega), hs 67 m (by omega) (by omega), e0]
                exact hI.2.1 m m0 m1) (fun p p0 p1 => by
                rw [hs 60 11 (by omega) (by omega)] at p1
                rw [hs 70 p (by omega) (by omega), hs 71 p (by omega) (by omega)]
                exact hI.2.2.1 p p0 p1) (by
                rw [hs 60 15 (by omega) (by omega), hs 60 16 (by omega) (by omega)]
                exact hI.2.2.2.1))
          · intro (c15 : w < b)
            refine And.intro ?_ ?_
            · intro (c17 : ¬ a = 0)
              refine And.intro ?_ ?_
              · intro (c18 : ¬ a = 1)
                refine And.intro ?_ ?_
                · intro (c19 : ¬ a = 3)
                  refine And.intro (show 0 ≤ w ∧ w < 14 by omega) ?_
                  refine And.intro (show 0 ≤ w ∧ w < 14 by omega) ?_
                  show xa_C xm_I A h0 _ 32 [(0, 0, 0, 400, M1 62 w), (0, 0, (-2147483648), 2147483647, v)] M1 _
                  refine ct_min (-2147483648) 400 (by decide) (by decide) (by decide) (fun r20 br20 er20 => ?_)
                  show xa_C xm_I A h0 _ 35 [(0, 0, 0, 400, M1 61 w), (0, 0, (-2147483648), 400, r20)] M1 _
                  refine ct_max 0 400 (by decide) (by decide) (by decide) (fun r21 br21 er21 => ?_)
                  refine And.intro (show 0 ≤ w ∧ w < 14 by omega) ?_
                  show Q 43 [(7, (0, 0, 1, 15, w + 1)), (5, (0, 0, (-2147483648), 2147483647, xa_w32 (t + 1))), (6, (0, 0, (-2147483648), 2147483647, xa_w32 (v + e))), (8, (0, 0, (-2147483648), 2147483647, v)), (4, (0, 0, (-2147483648), 2147483647, e)), (2, (0, 0, (-2147483648), 14, b)), (1, (0, 0, 0, 3, a)), (0, (2, 60, 0, 0, 0))] [] (xa_up M1 63 w r21)
                  refine hgo.2.1 43 _ [(7, (0, 0, 0, 14, w + 1)), (6, (0, 0, (-2147483648), 2147483647, xa_w32 (v + e))), (5, (0, 0, (-2147483648), 2147483647, xa_w32 (t + 1))), (4, (0, 0, (-2147483648), 2147483647, e)), (2, (0, 0, (-2147483648), 14, b)), (1, (0, 0, 0, 3, a)), (0, (2, 60, 0, 0, 0))] _ _ (xa_subI rfl rfl (fun _ _ _ _ => by omega) (xa_subI rfl rfl (fun _ _ _ _ => by omega) (xa_subI rfl rfl (fun _ _ _ _ => by omega) (xa_subI rfl rfl (fun _ _ _ _ => by omega) (xa_subI rfl rfl (fun _ _ _ _ => by omega) (xa_subI rfl rfl (fun _ _ _ _ => by omega) (xa_subR rfl xa_sub0))))))) ?_
                  exact ih (w + 1) (xa_w32 (v + e)) (xa_w32 (t + 1)) (xa_up M1 63 w r21) (by omega) (by omega) (fun q j hn hq => by
                    rw [xa_up_ne (fun e => hq e.1)]
                    exact hs q j hn hq) (fun x x0 x1 => by
                    by_cases e : x = w
                    · subst e
                      simp [xa_up]
                      omega
                    · simp [xa_up, e]
                      exact ht x x0 x1) (by have e9 := xa_w32_id (n := t + 1) (by omega) (by omega); omega) (by omega)
                · intro (c19 : a = 3)
                  refine And.intro (show 0 ≤ w ∧ w < 14 by omega) ?_
                  refine And.intro (show 0 ≤ w ∧ w < 14 by omega) ?_
                  show Q 43 [(7, (0, 0, 1, 15, w + 1)), (5, (0, 0, (-2147483648), 2147483647, xa_w32 (t + 1))), (6, (0, 0, (-2147483648), 2147483647, xa_w32 (v + e))), (8, (0, 0, (-2147483648), 2147483647, v)), (4, (0, 0, (-2147483648), 2147483647, e)), (2, (0, 0, (-2147483648), 14, b)), (1, (0, 0, 0, 3, a)), (0, (2, 60, 0, 0, 0))] [] (xa_up M1 63 w (M1 61 w))
                  refine hgo.2.1 43 _ [(7, (0, 0, 0, 14, w + 1)), (6, (0, 0, (-2147483648), 2147483647, xa_w32 (v + e))), (5, (0, 0, (-2147483648), 2147483647, xa_w32 (t + 1))), (4, (0, 0, (-2147483648), 2147483647, e)), (2, (0, 0, (-2147483648), 14, b)), (1, (0, 0, 0, 3, a)), (0, (2, 60, 0, 0, 0))] _ _ (xa_subI rfl rfl (fun _ _ _ _ => by omega) (xa_subI rfl rfl (fun _ _ _ _ => by omega) (xa_subI rfl rfl (fun _ _ _ _ => by omega) (xa_subI rfl rfl (fun _ _ _ _ => by omega) (xa_subI rfl rfl (fun _ _ _ _ => by omega) (xa_subI rfl rfl (fun _ _ _ _ => by omega) (xa_subR rfl xa_sub0))))))) ?_
                  exact ih (w + 1) (xa_w32 (v + e)) (xa_w32 (t + 1)) (xa_up M1 63 w (M1 61 w)) (by omega) (by omega) (fun q j hn hq => by
                    rw [xa_up_ne (fun e => hq e.1)]
                    exact hs q j hn hq) (fun x x0 x1 => by
                    by_cases e : x = w
                    · subst e
                      simp [xa_up]
                      omega
                    · simp [xa_up, e]
                      exact ht x x0 x1) (by have e9 := xa_w32_id (n := t + 1) (by omega) (by omega); omega) (by omega)
              · intro (c18 : a = 1)
                refine And.intro ?_ ?_
                · intro (c22 : ¬ a = 3)
                  refine And.intro (show 0 ≤ w ∧ w < 14 by omega) ?_
                  refine And.intro (show 0 ≤ w ∧ w < 14 by omega) ?_
                  show xa_C xm_I A h0 _ 32 [(0, 0, 0, 400, M1 62 w), (0, 0, (-32768), 32767, xa_i16 v)] M1 _
                  refine ct_min (-32768) 400 (by decide) (by decide) (by decide) (fun r23 br23 er23 => ?_)
                  show xa_C xm_I A h0 _ 35 [(0, 0, 0, 400, M1 61 w), (0, 0, (-32768), 400, r23)] M1 _
                  refine ct_max 0 400 (by decide) (by decide) (by decide) (fun r24 br24 er24 => ?_)
                  refine And.intro (show 0 ≤ w ∧ w < 14 by omega) ?_
                  show Q 43 [(7, (0, 0, 1, 15, w + 1)), (5, (0, 0, (-2147483648), 2147483647, xa_w32 (t + 1))), (6, (0, 0, (-2147483648), 2147483647, xa_w32 (v + e))), (8, (0, 0, (-32768), 32767, xa_i16 v)), (4, (0, 0, (-2147483648), 2147483647, e)), (2, (0, 0, (-2147483648), 14, b)), (1, (0, 0, 0, 3, a)), (0, (2, 60, 0, 0, 0))] [] (xa_up M1 63 w r24)
                  refine hgo.2.1 43 _ [(7, (0, 0, 0, 14, w + 1)), (6, (0, 0, (-2147483648), 2147483647, xa_w32 (v + e))), (5, (0, 0, (-2147483648), 2147483647, xa_w32 (t + 1))), (4, (0, 0, (-2147483648), 2147483647, e)), (2, (0, 0, (-2147483648), 14, b)), (1, (0, 0, 0, 3, a)), (0, (2, 60, 0, 0, 0))] _ _ (xa_subI rfl rfl (fun _ _ _ _ => by omega) (xa_subI rfl rfl (fun _ _ _ _ => by omega) (xa_subI rfl rfl (fun _ _ _ _ => by omega) (xa_subI rfl rfl (fun _ _ _ _ => by omega) (xa_subI rfl rfl (fun _ _ _ _ => by omega) (xa_subI rfl rfl (fun _ _ _ _ => by omega) (xa_subR rfl xa_sub0))))))) ?_
                  exact ih (w + 1) (xa_w32 (v + e)) (xa_w32 (t + 1)) (xa_up M1 63 w r24) (by omega) (by omega) (fun q j hn hq => by
                    rw [xa_up_ne (fun e => hq e.1)]
                    exact hs q j hn hq) (fun x x0 x1 => by
                    by_cases e : x = w
                    · subst e
                      simp [xa_up]
                      omega
                    · simp [xa_up, e]
                      exact ht x x0 x1) (by have e9 := xa_w32_id (n := t + 1) (by omega) (by omega); omega) (by omega)
                · intro (c22 : a = 3)
                  refine And.intro (show 0 ≤ w ∧ w < 14 by omega) ?_
                  refine And.intro (show 0 ≤ w ∧ w < 14 by omega) ?_
                  show Q 43 [(7, (0, 0, 1, 15, w + 1)), (5, (0, 0, (-2147483648), 2147483647, xa_w32 (t + 1))), (6, (0, 0, (-2147483648), 2147483647, xa_w32 (v + e))), (8, (0, 0, (-32768), 32767, xa_i16 v)), (4, (0, 0, (-2147483648), 2147483647, e)), (2, (0, 0, (-2147483648), 14, b)), (1, (0, 0, 0, 3, a)), (0, (2, 60, 0, 0, 0))] [] (xa_up M1 63 w (M1 61 w))
                  refine hgo.2.1 43 _ [(7, (0, 0, 0, 14, w + 1)), (6, (0, 0, (-2147483648), 2147483647, xa_w32 (v + e))), (5, (0, 0, (-2147483648), 2147483647, xa_w32 (t + 1))), (4, (0, 0, (-2147483648), 2147483647, e)), (2, (0, 0, (-2147483648), 14, b)), (1, (0, 0, 0, 3, a)), (0, (2, 60, 0, 0, 0))] _ _ (xa_subI rfl rfl (fun _ _ _ _ => by omega) (xa_subI rfl rfl (fun _ _ _ _ => by omega) (xa_subI rfl rfl (fun _ _ _ _ => by omega) (xa_subI rfl rfl (fun _ _ _ _ => by omega) (xa_subI rfl rfl (fun _ _ _ _ => by omega) (xa_subI rfl rfl (fun _ _ _ _ => by omega) (xa_subR rfl xa_sub0))))))) ?_
                  exact ih (w + 1) (xa_w32 (v + e)) (xa_w32 (t + 1)) (xa_up M1 63 w (M1 61 w)) (by omega) (by omega) (fun q j hn hq => by
                    rw [xa_up_ne (fun e => hq e.1)]
                    exact hs q j hn hq) (fun x x0 x1 => by
                    by_cases e : x = w
                    · subst e
                      simp [xa_up]
                      omega
                    · simp [xa_up, e]
                      exact ht x x0 x1) (by have e9 := xa_w32_id (n := t + 1) (by omega) (by omega); omega) (by omega)
            · intro (c17 : a = 0)
              refine And.intro ?_ ?_
              · intro (c25 : ¬ a = 3)
                refine And.intro (show 0 ≤ w ∧ w < 14 by omega) ?_
                refine And.intro (show 0 ≤ w ∧ w < 14 by omega) ?_
                show xa_C xm_I A h0 _ 32 [(0, 0, 0, 400, M1 62 w), (0, 0, (-128), 127, xa_i8 v)] M1 _
                refine ct_min (-128) 127 (by decide) (by decide) (by decide) (fun r26 br26 er26 => ?_)
                show xa_C xm_I A h0 _ 35 [(0, 0, 0, 400, M1 61 w), (0, 0, (-128), 127, r26)] M1 _
                refine ct_max 0 400 (by decide) (by decide) (by decide) (fun r27 br27 er27 => ?_)
                refine And.intro (show 0 ≤ w ∧ w < 14 by omega) ?_
                show Q 43 [(7, (0, 0, 1, 15, w + 1)), (5, (0, 0, (-2147483648), 2147483647, xa_w32 (t + 1))), (6, (0, 0, (-2147483648), 2147483647, xa_w32 (v + e))), (8, (0, 0, (-128), 127, xa_i8 v)), (4, (0, 0, (-2147483648), 2147483647, e)), (2, (0, 0, (-2147483648), 14, b)), (1, (0, 0, 0, 3, a)), (0, (2, 60, 0, 0, 0))] [] (xa_up M1 63 w r27)
                refine hgo.2.1 43 _ [(7, (0, 0, 0, 14, w + 1)), (6, (0, 0, (-2147483648), 2147483647, xa_w32 (v + e))), (5, (0, 0, (-2147483648), 2147483647, xa_w32 (t + 1))), (4, (0, 0, (-2147483648), 2147483647, e)), (2, (0, 0, (-2147483648), 14, b)), (1, (0, 0, 0, 3, a)), (0, (2, 60, 0, 0, 0))] _ _ (xa_subI rfl rfl (fun _ _ _ _ => by omega) (xa_subI rfl rfl (fun _ _ _ _ => by omega) (xa_subI rfl rfl (fun _ _ _ _ => by omega) (xa_subI rfl rfl (fun _ _ _ _ => by omega) (xa_subI rfl rfl (fun _ _ _ _ => by omega) (xa_subI rfl rfl (fun _ _ _ _ => by omega) (xa_subR rfl xa_sub0))))))) ?_
                exact ih (w + 1) (xa_w32 (v + e)) (xa_w32 (t + 1)) (xa_up M1 63 w r27) (by omega) (by omega) (fun q j hn hq => by
                  rw [xa_up_ne (fun e => hq e.1)]
                  exact hs q j hn hq) (fun x x0 x1 => by
                  by_cases e : x = w
                  · subst e
                    simp [xa_up]
                    omega
                  · simp [xa_up, e]
                    exact ht x x0 x1) (by have e9 := xa_w32_id (n := t + 1) (by omega) (by omega); omega) (by omega)
              · intro (c25 : a = 3)
                refine And.intro (show 0 ≤ w ∧ w < 14 by omega) ?_
                refine And.intro (show 0 ≤ w ∧ w < 14 by omega) ?_
                show Q 43 [(7, (0, 0, 1, 15, w + 1)), (5, (0, 0, (-2147483648), 2147483647, xa_w32 (t + 1))), (6, (0, 0, (-2147483648), 2147483647, xa_w32 (v + e))), (8, (0, 0, (-128), 127, xa_i8 v)), (4, (0, 0, (-2147483648), 2147483647, e)), (2, (0, 0, (-2147483648), 14, b)), (1, (0, 0, 0, 3, a)), (0, (2, 60, 0, 0, 0))] [] (xa_up M1 63 w (M1 61 w))
                refine hgo.2.1 43 _ [(7, (0, 0, 0, 14, w + 1)), (6, (0, 0, (-2147483648), 2147483647, xa_w32 (v + e))), (5, (0, 0, (-2147483648), 2147483647, xa_w32 (t + 1))), (4, (0, 0, (-2147483648), 2147483647, e)), (2, (0, 0, (-2147483648), 14, b)), (1, (0, 0, 0, 3, a)), (0, (2, 60, 0, 0, 0))] _ _ (xa_subI rfl rfl (fun _ _ _ _ => by omega) (xa_subI rfl rfl (fun _ _ _ _ => by omega) (xa_subI rfl rfl (fun _ _ _ _ => by omega) (xa_subI rfl rfl (fun _ _ _ _ => by omega) (xa_subI rfl rfl (fun _ _ _ _ => by omega) (xa_subI rfl rfl (fun _ _ _ _ => by omega) (xa_subR rfl xa_sub0))))))) ?_
                exact ih (w + 1) (xa_w32 (v + e)) (xa_w32 (t + 1)) (xa_up M1 63 w (M1 61 w)) (by omega) (by omega) (fun q j hn hq => by
                  rw [xa_up_ne (fun e => hq e.1)]
                  exact hs q j hn hq) (fun x x0 x1 => by
                  by_cases e : x = w
                  · subst e
                    simp [xa_up]
                    omega
                  · simp [xa_up, e]
                    exact ht x x0 x1) (by have e9 := xa_w32_id (n := t + 1) (by omega) (by omega); omega) (by omega)
  refine hgo.1 27 [43] 0 _ _ _ ?_
  show xa_C xm_I A h0 _ 214 [(0, 0, (-2147483648), 2147483647, a), (0, 0, 0, 0, 0), (0, 0, 3, 3, 3)] (xa_up M 60 21 0) _
  refine ct_in ?_ ?_
  · intro (i1 : 0 ≤ a ∧ a ≤ 3)
    refine And.intro ?_ ?_
    · intro (c2 : b ≤ 14)
      refine And.intro ?_ ?_
      · intro (c3 : 3 ≤ a)
        show Q 43 [(7, (0, 0, 0, 0, 0)), (6, (0, 0, (-2147483648), 2147483647, c)), (5, (0, 0, 0, 0, 0)), (0, (2, 60, 0, 0, 0)), (1, (0, 0, (-2147483648), 2147483647, a)), (2, (0, 0, (-2147483648), 2147483647, b)), (3, (0, 0, (-2147483648), 2147483647, c)), (4, (0, 0, (-2147483648), 2147483647, e))] [] (xa_up M 60 21 0)
        refine hgo.2.1 43 _ [(7, (0, 0, 0, 14, 0)), (6, (0, 0, (-2147483648), 2147483647, c)), (5, (0, 0, (-2147483648), 2147483647, 0)), (4, (0, 0, (-2147483648), 2147483647, e)), (2, (0, 0, (-2147483648), 14, b)), (1, (0, 0, 0, 3, a)), (0, (2, 60, 0, 0, 0))] _ _ (xa_subI rfl rfl (fun _ _ _ _ => by omega) (xa_subI rfl rfl (fun _ _ _ _ => by omega) (xa_subI rfl rfl (fun _ _ _ _ => by omega) (xa_subI rfl rfl (fun _ _ _ _ => by omega) (xa_subI rfl rfl (fun _ _ _ _ => by omega) (xa_subI rfl rfl (fun _ _ _ _ => by omega) (xa_subR rfl xa_sub0))))))) ?_
        exact loop 15 0 c 0 (xa_up M 60 21 0) (by omega) (by omega) (fun q j hn hq => by rw [xa_up_ne (fun e => hn (by omega))]) (fun x x0 x1 => by simp [xa_up]; exact (hI.1 x x0 x1).2.2) (by omega) (by omega)
      · intro (c3 : a < 3)
        refine And.intro ?_ ?_
        · intro (c4 : 0 ≤ b)
          show Q 43 [(7, (0, 0, 0, 0, 0)), (6, (0, 0, (-2147483648), 2147483647, c)), (5, (0, 0, 0, 0, 0)), (0, (2, 60, 0, 0, 0)), (1, (0, 0, (-2147483648), 2147483647, a)), (2, (0, 0, (-2147483648), 2147483647, b)), (3, (0, 0, (-2147483648), 2147483647, c)), (4, (0, 0, (-2147483648), 2147483647, e))] [] (xa_up M 60 21 0)
          refine hgo.2.1 43 _ [(7, (0, 0, 0, 14, 0)), (6, (0, 0, (-2147483648), 2147483647, c)), (5, (0, 0, (-2147483648), 2147483647, 0)), (4, (0, 0, (-2147483648), 2147483647, e)), (2, (0, 0, (-2147483648), 14, b)), (1, (0, 0, 0, 3, a)), (0, (2, 60, 0, 0, 0))] _ _ (xa_subI rfl rfl (fun _ _ _ _ => by omega) (xa_subI rfl rfl (fun _ _ _ _ => by omega) (xa_subI rfl rfl (fun _ _ _ _ => by omega) (xa_subI rfl rfl (fun _ _ _ _ => by omega) (xa_subI rfl rfl (fun _ _ _ _ => by omega) (xa_subI rfl rfl (fun _ _ _ _ => by omega) (xa_subR rfl xa_sub0))))))) ?_
          exact loop 15 0 c 0 (xa_up M 60 21 0) (by omega) (by omega) (fun q j hn hq => by rw [xa_up_ne (fun e => hn (by omega))]) (fun x x0 x1 => by simp [xa_up]; exact (hI.1 x x0 x1).2.2) (by omega) (by omega)
        · intro (c4 : b < 0)
          show post (some (0, 0, (-2), (-2), (-2))) (xa_up M 60 21 0)
          exact k _ _ (iv_so (ls_e (by omega))) (xk_cor (xm_cor_f (by omega) xm_cor_r)) (xm_Inv_cor (xm_cor_f (by omega) xm_cor_r) hI)
    · intro (c2 : 14 < b)
      show post (some (0, 0, (-1), (-1), (-1))) (xa_up M 60 21 0)
      exact k _ _ (iv_so (ls_e (by omega))) (xk_cor (xm_cor_f (by omega) xm_cor_r)) (xm_Inv_cor (xm_cor_f (by omega) xm_cor_r) hI)
  · intro (i1 : ¬ (0 ≤ a ∧ a ≤ 3))
    show post (some (0, 0, (-1), (-1), (-1))) (xa_up M 60 21 0)
    exact k _ _ (iv_so (ls_e (by omega))) (xk_cor (xm_cor_f (by omega) xm_cor_r)) (xm_Inv_cor (xm_cor_f (by omega) xm_cor_r) hI)
theorem iv_p30 (A : Nat → Nat) (cmp : Bool) : iv_pair (iv_J A) A 30 219 [0, 0, 0, 0] cmp false := iv_armK (fun W b h as M hJ hM hInv hs hR => by
  obtain ⟨m1, ys, rfl, -, hs⟩ := iv_spc hs
  obtain ⟨m2, ys, rfl, -, hs⟩ := iv_spc hs
  obtain ⟨m3, ys, rfl, -, hs⟩ := iv_spc hs
  obtain ⟨m4, ys, rfl, -, hs⟩ := iv_spc hs
  obtain rfl := iv_sp0 hs
  have b0 := xm_f0 (xa_H_Mok hM)
  have b6 := xm_f6 (xa_H_Mok hM)
  have r1 : iv_num h 1 9 = M 60 0 := hR.1.1
  have r2 : iv_num h 1 10 = M 60 6 := hR.1.2.1
  have r3 : ∀ i, 0 ≤ i → i < 14 → iv_num h 2 i = M 61 i ∧ iv_num h 3 i = M 62 i ∧ iv_num h 5 i = M 64 i ∧ iv_num h 6 i = M 65 i := hR.1.2.2.1
  have r4 : ∀ i, 0 ≤ i → i < 16 → iv_num h 7 i = M 66 i ∧ iv_num h 8 i = M 67 i := hR.1.2.2.2
  have hS := hR.2
  have hc := cw_30 (b := b) (A := A) (h0 := h) (d := 56) (M := iv_num h) (l1 := -2147483648) (u1 := 2147483647) (l2 := -2147483648) (u2 := 2147483647) (l3 := -2147483648) (u3 := 2147483647) (l4 := -2147483648) (u4 := 2147483647) (x1 := m1.toInt) (x2 := m2.toInt) (x3 := m3.toInt) (x4 := m4.toInt) (post := fun o M1 => (∃ lo hi, o = some (0, 0, lo, hi, ls_v m1.toInt m2.toInt (iv_num h 1 9))) ∧ ∀ q j, lm_C q j → q < 60 → M1 q j = iv_num h q j) (by omega) (fun o M1 ho hk => ⟨ho, fun q j hC _ => hk q j (by unfold lm_C at hC; omega)⟩)
  rw [r1] at hc
  have hm := fun (h1 : g_H) => ms_sheetF (A := A) (h0 := h1) (d := 57) (M := M) (l1 := -2147483648) (u1 := 2147483647) (l2 := -2147483648) (u2 := 2147483647) (l3 := -2147483648) (u3 := 2147483647) (l4 := -2147483648) (u4 := 2147483647) (a := m1.toInt) (b := m2.toInt) (c := m3.toInt) (e := m4.toInt) (post := fun o M2 => (∃ lo hi, o = some (0, 0, lo, hi, ls_v m1.toInt m2.toInt (M 60 0))) ∧ xk_U M M2 ∧ xm_Inv M2) hInv (fun o M1 h1 h2 h3 => ⟨h1, h2, h3⟩)
  exact ⟨[(2, 0, 0, 0, 0), (0, 0, -2147483648, 2147483647, m1.toInt), (0, 0, -2147483648, 2147483647, m2.toInt), (0, 0, -2147483648, 2147483647, m3.toInt), (0, 0, -2147483648, 2147483647, m4.toInt)], [(2, 60, 0, 0, 0), (0, 0, -2147483648, 2147483647, m1.toInt), (0, 0, -2147483648, 2147483647, m2.toInt), (0, 0, -2147483648, 2147483647, m3.toInt), (0, 0, -2147483648, 2147483647, m4.toInt)], _, ⟨rfl, iv_i m1, iv_i m2, iv_i m3, iv_i m4, trivial⟩, ⟨rfl, iv_i m1, iv_i m2, iv_i m3, iv_i m4, trivial⟩, hc, hm⟩)
