-- kept builds (made by wip/p24/xa/xm7.py)
set_option maxRecDepth 20000
theorem xa_up_hit {M : xa_M} {q q' : Nat} {j j' v : Int} (h : q' = q ∧ j' = j) : xa_up M q j v q' j' = v := if_pos h
theorem xm_bld_2 {M M1 : xa_M} {i : Int} (h : ∀ j, 124 * i ≤ j → j < 124 * i + 124 → M1 104 j = M 104 j) (hb : xm_bld M i) : xm_bld M1 i := by
  obtain ⟨h1, h2, h3, h4, h5⟩ := hb
  refine ⟨?_, fun w w0 w1 => ?_, ?_, fun m m0 m1 => ?_, fun a a0 a1 => ?_⟩
  · rw [h _ (by omega) (by omega)]
    exact h1
  · rw [h (124 * i) (by omega) (by omega), h (124 * i + 1 + 5 * w) (by omega) (by omega), h (124 * i + 2 + 5 * w) (by omega) (by omega), h (124 * i + 3 + 5 * w) (by omega) (by omega), h (124 * i + 4 + 5 * w) (by omega) (by omega), h (124 * i + 5 + 5 * w) (by omega) (by omega)]
    exact h2 w w0 w1
  · rw [h _ (by omega) (by omega)]
    exact h3
  · rw [h (124 * i) (by omega) (by omega), h (124 * i + 71) (by omega) (by omega), h (124 * i + 72 + 2 * m) (by omega) (by omega), h (124 * i + 73 + 2 * m) (by omega) (by omega)]
    exact h4 m m0 m1
  · rw [h (124 * i + 104 + 2 * a) (by omega) (by omega), h (124 * i + 105 + 2 * a) (by omega) (by omega)]
    exact h5 a a0 a1
/-- what keep has written -/
def xm_kpt (M M1 : xa_M) (a : Int) (w m x : Int) : Prop := (∀ q j, ¬ xm_scr q j → ¬ q = 104 → ¬ q = 105 → M1 q j = M q j) ∧ (∀ j, ¬ j = a → M1 105 j = M 105 j) ∧ (∀ j, ¬ (124 * a ≤ j ∧ j < 124 * a + 124) → M1 104 j = M 104 j) ∧ M1 104 (124 * a) = M 60 0 ∧ (∀ y, 0 ≤ y → y < w → M1 104 (124 * a + 1 + 5 * y) = M 61 y ∧ M1 104 (124 * a + 2 + 5 * y) = M 62 y ∧ M1 104 (124 * a + 3 + 5 * y) = M 63 y ∧ M1 104 (124 * a + 4 + 5 * y) = M 64 y ∧ M1 104 (124 * a + 5 + 5 * y) = M 65 y) ∧ (0 ≤ m → M1 104 (124 * a + 71) = M 60 6) ∧ (∀ y, 0 ≤ y → y < m → M1 104 (124 * a + 72 + 2 * y) = M 66 y ∧ M1 104 (124 * a + 73 + 2 * y) = M 67 y) ∧ (∀ y, 0 ≤ y → y < x → M1 104 (124 * a + 104 + 2 * y) = M 68 y ∧ M1 104 (124 * a + 105 + 2 * y) = M 69 y)
theorem xm_kpt_Inv {M M1 : xa_M} {a : Int} (hM : xa_Mok xm_I M) (hI : xm_Inv M) (h : xm_kpt M M1 a 14 16 10) : xm_Inv M1 := by
  obtain ⟨h1, h2, h3, h4, h5, h6, h7, h8⟩ := h
  have e := fun q j (hn : ¬ xm_scr q j) (hq : ¬ q = 104 ∧ ¬ q = 105) => h1 q j hn hq.1 hq.2
  refine ⟨fun w w0 w1 => ?_, fun m m0 m1 => ?_, fun p p0 p1 => ?_, ?_, fun i i0 i1 i2 => ?_⟩
  · rw [e 60 0 (by omega) (by omega)] at w1
    rw [e 61 w (by omega) (by omega), e 62 w (by omega) (by omega), e 63 w (by omega) (by omega)]
    exact hI.1 w w0 w1
  · rw [e 60 6 (by omega) (by omega)] at m1
    rw [e 66 m (by omega) (by omega), e 67 m (by omega) (by omega), e 60 0 (by omega) (by omega)]
    exact hI.2.1 m m0 m1
  · rw [e 60 11 (by omega) (by omega)] at p1
    rw [e 70 p (by omega) (by omega), e 71 p (by omega) (by omega)]
    exact hI.2.2.1 p p0 p1
  · rw [e 60 15 (by omega) (by omega), e 60 16 (by omega) (by omega)]
    exact hI.2.2.2.1
  · by_cases ei : i = a
    · subst ei
      have b0 := xm_f0 hM
      have b6 := xm_f6 hM
      refine ⟨by omega, fun w w0 w1 => ?_, by have := h6 (by omega); omega, fun m m0 m1 => ?_, fun x x0 x1 => ?_⟩
      · have f := h5 w w0 w1
        have g := hI.1 w w0
        have t1 := xm_t61 hM w w0 (by omega)
        have t2 := xm_t62 hM w w0 (by omega)
        have t3 := xm_t63 hM w w0 (by omega)
        have t4 := xm_t64 hM w w0 (by omega)
        have t5 := xm_t65 hM w w0 (by omega)
        omega
      · have f := h7 m m0 m1
        have g := hI.2.1 m m0
        have t1 := xm_t66 hM m m0 (by omega)
        have t2 := xm_t67 hM m m0 (by omega)
        have h6' := h6 (by omega)
        omega
      · have f := h8 x x0 x1
        have t1 := xm_t68 hM x x0 (by omega)
        have t2 := xm_t69 hM x x0 (by omega)
        omega
    · rw [h2 i ei] at i2
      exact xm_bld_2 (fun j j0 j1 => h3 j (by omega)) (hI.2.2.2.2 i i0 i1 i2)
def xa_bc (n : Int) : Int := xa_ib 3 (xa_w32 ((xa_w32 ((xa_ib 3 (xa_w32 ((xa_w32 ((xa_ib 3 (xa_w32 (n - (xa_ib 3 (xa_ib 8 n 1) 1431655765))) 858993459) + (xa_ib 3 (xa_ib 8 (xa_w32 (n - (xa_ib 3 (xa_ib 8 n 1) 1431655765))) 2) 858993459))) + (xa_ib 8 (xa_w32 ((xa_ib 3 (xa_w32 (n - (xa_ib 3 (xa_ib 8 n 1) 1431655765))) 858993459) + (xa_ib 3 (xa_ib 8 (xa_w32 (n - (xa_ib 3 (xa_ib 8 n 1) 1431655765))) 2) 858993459))) 4))) 252645135) + (xa_ib 8 (xa_ib 3 (xa_w32 ((xa_w32 ((xa_ib 3 (xa_w32 (n - (xa_ib 3 (xa_ib 8 n 1) 1431655765))) 858993459) + (xa_ib 3 (xa_ib 8 (xa_w32 (n - (xa_ib 3 (xa_ib 8 n 1) 1431655765))) 2) 858993459))) + (xa_ib 8 (xa_w32 ((xa_ib 3 (xa_w32 (n - (xa_ib 3 (xa_ib 8 n 1) 1431655765))) 858993459) + (xa_ib 3 (xa_ib 8 (xa_w32 (n - (xa_ib 3 (xa_ib 8 n 1) 1431655765))) 2) 858993459))) 4))) 252645135) 8))) + (xa_ib 8 (xa_w32 ((xa_ib 3 (xa_w32 ((xa_w32 ((xa_ib 3 (xa_w32 (n - (xa_ib 3 (xa_ib 8 n 1) 1431655765))) 858993459) + (xa_ib 3 (xa_ib 8 (xa_w32 (n - (xa_ib 3 (xa_ib 8 n 1) 1431655765))) 2) 858993459))) + (xa_ib 8 (xa_w32 ((xa_ib 3 (xa_w32 (n - (xa_ib 3 (xa_ib 8 n 1) 1431655765))) 858993459) + (xa_ib 3 (xa_ib 8 (xa_w32 (n - (xa_ib 3 (xa_ib 8 n 1) 1431655765))) 2) 858993459))) 4))) 252645135) + (xa_ib 8 (xa_ib 3 (xa_w32 ((xa_w32 ((xa_ib 3 (xa_w32 (n - (xa_ib 3 (xa_ib 8 n 1) 1431655765))) 858993459) + (xa_ib 3 (xa_ib 8 (xa_w32 (n - (xa_ib 3 (xa_ib 8 n 1) 1431655765))) 2) 858993459))) + (xa_ib 8 (xa_w32 ((xa_ib 3 (xa_w32 (n - (xa_ib 3 (xa_ib 8 n 1) 1431655765))) 858993459) + (xa_ib 3 (xa_ib 8 (xa_w32 (n - (xa_ib 3 (xa_ib 8 n 1) 1431655765))) 2) 858993459))) 4))) 252645135) 8))) 16))) 63
theorem ct_bitCount {A : Nat → Nat} {h0 : g_H} {d : Nat} {M : xa_M} {post : Option xa_V → xa_M → Prop} {I : xa_I} {l u n : Int} (k : post (some (0, 0, -2147483648, 2147483647, xa_bc n)) M) : xa_C I A h0 (d + 1) 136 [(0, 0, l, u, n)] M post := by
  refine xa_C_arg [(0, 0, (-2147483648), 2147483647, n)] (xa_svI (fun _ _ _ _ => by omega) xa_sv0) (xa_C_wk ?_)
  refine xa_meth (Q0 := (1, 1, false, 0, 0, 15)) (by decide +kernel) ⟨rfl, rfl⟩ (full := s_c_136) rfl rfl ?_
  intro hM hv Q hgo
  refine hgo.1 46 [] 0 _ _ _ ?_
  show xa_wk post (some (0, 0, (-2147483648), 2147483647, xa_ib 3 (xa_w32 ((xa_w32 ((xa_ib 3 (xa_w32 ((xa_w32 ((xa_ib 3 (xa_w32 (n - (xa_ib 3 (xa_ib 8 n 1) 1431655765))) 858993459) + (xa_ib 3 (xa_ib 8 (xa_w32 (n - (xa_ib 3 (xa_ib 8 n 1) 1431655765))) 2) 858993459))) + (xa_ib 8 (xa_w32 ((xa_ib 3 (xa_w32 (n - (xa_ib 3 (xa_ib 8 n 1) 1431655765))) 858993459) + (xa_ib 3 (xa_ib 8 (xa_w32 (n - (xa_ib 3 (xa_ib 8 n 1) 1431655765))) 2) 858993459))) 4))) 252645135) + (xa_ib 8 (xa_ib 3 (xa_w32 ((xa_w32 ((xa_ib 3 (xa_w32 (n - (xa_ib 3 (xa_ib 8 n 1) 1431655765))) 858993459) + (xa_ib 3 (xa_ib 8 (xa_w32 (n - (xa_ib 3 (xa_ib 8 n 1) 1431655765))) 2) 858993459))) + (xa_ib 8 (xa_w32 ((xa_ib 3 (xa_w32 (n - (xa_ib 3 (xa_ib 8 n 1) 1431655765))) 858993459) + (xa_ib 3 (xa_ib 8 (xa_w32 (n - (xa_ib 3 (xa_ib 8 n 1) 1431655765))) 2) 858993459))) 4))) 252645135) 8))) + (xa_ib 8 (xa_w32 ((xa_ib 3 (xa_w32 ((xa_w32 ((xa_ib 3 (xa_w32 (n - (xa_ib 3 (xa_ib 8 n 1) 1431655765))) 858993459) + (xa_ib 3 (xa_ib 8 (xa_w32 (n - (xa_ib 3 (xa_ib 8 n 1) 1431655765))) 2) 858993459))) + (xa_ib 8 (xa_w32 ((xa_ib 3 (xa_w32 (n - (xa_ib 3 (xa_ib 8 n 1) 1431655765))) 858993459) + (xa_ib 3 (xa_ib 8 (xa_w32 (n - (xa_ib 3 (xa_ib 8 n 1) 1431655765))) 2) 858993459))) 4))) 252645135) + (xa_ib 8 (xa_ib 3 (xa_w32 ((xa_w32 ((xa_ib 3 (xa_w32 (n - (xa_ib 3 (xa_ib 8 n 1) 1431655765))) 858993459) + (xa_ib 3 (xa_ib 8 (xa_w32 (n - (xa_ib 3 (xa_ib 8 n 1) 1431655765))) 2) 858993459))) + (xa_ib 8 (xa_w32 ((xa_ib 3 (xa_w32 (n - (xa_ib 3 (xa_ib 8 n 1) 1431655765))) 858993459) + (xa_ib 3 (xa_ib 8 (xa_w32 (n - (xa_ib 3 (xa_ib 8 n 1) 1431655765))) 2) 858993459))) 4))) 252645135) 8))) 16))) 63)) M
  exact xa_wkI (xa_bc n) rfl (fun _ _ => by omega) k
theorem ct_putCell {A : Nat → Nat} {h0 : g_H} {d : Nat} {M : xa_M} {post : Option xa_V → xa_M → Prop} {l u v n : Int} (hn : M 60 68 = n) (h1 : 0 ≤ n) (h2 : n < 496) (k : post none (xa_up (xa_up M 104 n v) 60 68 (n + 1))) : xa_C xm_I A h0 (d + 1) 294 [(2, 60, 0, 0, 0), (0, 0, l, u, v)] M post := by
  subst hn
  refine xa_C_arg [(2, 60, 0, 0, 0), (0, 0, (-2147483648), 2147483647, v)] (xa_svR (xa_svI (fun _ _ _ _ => by omega) xa_sv0)) ?_
  refine xa_meth (Q0 := (2, 0, false, 0, 0, 12)) (by decide +kernel) ⟨rfl, rfl⟩ (full := s_c_294) rfl rfl ?_
  intro hM hv Q hgo
  refine hgo.1 17 [] 0 _ _ _ ?_
  refine And.intro (show 0 ≤ (M 60 68) ∧ (M 60 68) < 496 by omega) ?_
  refine And.intro (show 0 ≤ ((M 60 68) + 1) ∧ ((M 60 68) + 1) ≤ 496 by omega) ?_
  show post none (xa_up (xa_up M 104 (M 60 68) v) 60 68 ((M 60 68) + 1))
  exact k
theorem ct_nextCell {A : Nat → Nat} {h0 : g_H} {d : Nat} {M : xa_M} {post : Option xa_V → xa_M → Prop} {n : Int} (hn : M 60 68 = n) (h1 : 0 ≤ n) (h2 : n < 496) (k : post (some (0, 0, -2147483648, 2147483647, M 104 n)) (xa_up M 60 68 (n + 1))) : xa_C xm_I A h0 (d + 1) 296 [(2, 60, 0, 0, 0)] M post := by
  subst hn
  refine xa_meth (Q0 := (1, 1, false, 0, 0, 12)) (by decide +kernel) ⟨rfl, rfl⟩ (full := s_c_296) rfl rfl ?_
  intro hM hv Q hgo
  refine hgo.1 18 [] 0 _ _ _ ?_
  refine And.intro (show 0 ≤ ((M 60 68) + 1) ∧ ((M 60 68) + 1) ≤ 496 by omega) ?_
  refine And.intro (show 0 ≤ (((M 60 68) + 1) - 1) ∧ (((M 60 68) + 1) - 1) < 496 by omega) ?_
  show post (some (0, 0, (-2147483648), 2147483647, M 104 (((M 60 68) + 1) - 1))) (xa_up M 60 68 ((M 60 68) + 1))
  have e : M 60 68 + 1 - 1 = M 60 68 := by omega
  rw [e]
  exact k
theorem ms_keep {A : Nat → Nat} {h0 : g_H} {d : Nat} {M : xa_M} {post : Option xa_V → xa_M → Prop} {l1 u1 : Int} {a : Int} (hI : xm_Inv M) (k : ∀ (o : Option xa_V) (M1 : xa_M), xm_Inv M1 → post o M1) : xa_C xm_I A h0 (d + 2) 293 [(2, 60, 0, 0, 0), (0, 0, l1, u1, a)] M post := by
  refine xa_C_arg [(2, 60, 0, 0, 0), (0, 0, (-2147483648), 2147483647, a)] (xa_svR (xa_svI (fun _ _ _ _ => by omega) xa_sv0)) ?_
  refine xa_meth (Q0 := (3, 2, false, 0, 0, 12)) (by decide +kernel) ⟨rfl, rfl⟩ (full := s_c_293) rfl rfl ?_
  intro hM hv Q hgo
  have key : 0 ≤ a → a ≤ 3 → ∀ (M0 : xa_M), M0 60 68 = 124 * a + 1 → xm_kpt M M0 a 0 (-1) 0 → Q 41 [(2, (0, 0, 0, 14, 0)), (0, (2, 60, 0, 0, 0))] [] M0 := by
    intro a0 a1
    have loop3 : ∀ (n : Nat) (x : Int) (M1 : xa_M), 0 ≤ x → x ≤ 10 → M1 60 68 = 124 * a + 104 + 2 * x → xm_kpt M M1 a 14 16 x → 10 - x < (n : Int) → Q 147 [(2, (0, 0, 0, 10, x)), (0, (2, 60, 0, 0, 0))] [] M1 := by
      intro n
      induction n with
      | zero => intro x M1 h1 h2 e68 hk hms; omega
      | succ n ih =>
        intro x M1 h1 h2 e68 hk hms
        have hs := fun q j (hn : ¬ xm_scr q j) (hq : ¬ q = 104 ∧ ¬ q = 105) => hk.1 q j hn hq.1 hq.2
        have s68 := hs 68 x (by omega) (by omega)
        have s69 := hs 69 x (by omega) (by omega)
        have s6 := hs 60 6 (by omega) (by omega)
        refine hgo.1 22 [41, 113, 147] 147 _ _ _ ?_
        refine And.intro ?_ ?_
        · intro (c1 : 10 ≤ x)
          show post (some (0, 0, 1, 1, 1)) M1
          rw [show x = 10 by omega] at hk
          exact k _ _ (xm_kpt_Inv hM hI hk)
        · intro (c1 : x < 10)
          refine And.intro (show 0 ≤ x ∧ x < 10 by omega) ?_
          show xa_C xm_I A h0 _ 294 [(2, 60, 0, 0, 0), (0, 0, (-500), 500, M1 68 x)] M1 _
          refine ct_putCell (n := M1 60 68) (by first | rfl | omega | (simp [xa_up]; done)) (by omega) (by omega) ?_
          refine And.intro (show 0 ≤ x ∧ x < 10 by omega) ?_
          show xa_C xm_I A h0 _ 294 [(2, 60, 0, 0, 0), (0, 0, (-500), 500, M1 69 x)] (xa_up (xa_up M1 104 (M1 60 68) (M1 68 x)) 60 68 ((M1 60 68) + 1)) _
          refine ct_putCell (n := (M1 60 68) + 1) (by first | rfl | omega | (simp [xa_up]; done)) (by omega) (by omega) ?_
          show Q 147 [(2, (0, 0, 1, 11, x + 1)), (0, (2, 60, 0, 0, 0))] [] (xa_up (xa_up (xa_up (xa_up M1 104 (M1 60 68) (M1 68 x)) 60 68 ((M1 60 68) + 1)) 104 ((M1 60 68) + 1) (M1 69 x)) 60 68 (((M1 60 68) + 1) + 1))
          refine hgo.2.1 147 _ [(2, (0, 0, 0, 10, x + 1)), (0, (2, 60, 0, 0, 0))] _ _ (xa_subI rfl rfl (fun _ _ _ _ => by omega) (xa_subR rfl xa_sub0)) ?_
          exact ih (x + 1) (xa_up (xa_up (xa_up (xa_up M1 104 (M1 60 68) (M1 68 x)) 60 68 ((M1 60 68) + 1)) 104 ((M1 60 68) + 1) (M1 69 x)) 60 68 (((M1 60 68) + 1) + 1)) (by omega) (by omega) (by rw [xa_up_hit (by omega)]; omega) ⟨fun q j hn h4 h5 => by
            rw [xa_up_ne (by omega), xa_up_ne (by omega), xa_up_ne (by omega), xa_up_ne (by omega)]
            exact hk.1 q j hn h4 h5,
          fun j hj => by
            rw [xa_up_ne (by omega), xa_up_ne (by omega), xa_up_ne (by omega), xa_up_ne (by omega)]
            exact hk.2.1 j hj,
          fun j hj => by
            rw [xa_up_ne (by omega), xa_up_ne (by omega), xa_up_ne (by omega), xa_up_ne (by omega)]
            exact hk.2.2.1 j hj,
          by
            rw [xa_up_ne (by omega), xa_up_ne (by omega), xa_up_ne (by omega), xa_up_ne (by omega)]
            exact hk.2.2.2.1,
          fun y y0 y1 => by
            have f := hk.2.2.2.2.1 y y0 y1
            exact ⟨by
              rw [xa_up_ne (by omega), xa_up_ne (by omega), xa_up_ne (by omega), xa_up_ne (by omega)]
              exact f.1, by
              rw [xa_up_ne (by omega), xa_up_ne (by omega), xa_up_ne (by omega), xa_up_ne (by omega)]
              exact f.2.1, by
              rw [xa_up_ne (by omega), xa_up_ne (by omega), xa_up_ne (by omega), xa_up_ne (by omega)]
              exact f.2.2.1, by
              rw [xa_up_ne (by omega), xa_up_ne (by omega), xa_up_ne (by omega), xa_up_ne (by omega)]
              exact f.2.2.2.1, by
              rw [xa_up_ne (by omega), xa_up_ne (by omega), xa_up_ne (by omega), xa_up_ne (by omega)]
              exact f.2.2.2.2⟩,
          fun h => by
            rw [xa_up_ne (by omega), xa_up_ne (by omega), xa_up_ne (by omega), xa_up_ne (by omega)]
            exact hk.2.2.2.2.2.1 (by omega),
          fun y y0 y1 => by
            have f := hk.2.2.2.2.2.2.1 y y0 y1
            exact ⟨by
              rw [xa_up_ne (by omega), xa_up_ne (by omega), xa_up_ne (by omega), xa_up_ne (by omega)]
              exact f.1, by
              rw [xa_up_ne (by omega), xa_up_ne (by omega), xa_up_ne (by omega), xa_up_ne (by omega)]
              exact f.2⟩,
          fun y y0 y1 => by
            by_cases e : y = x
            · rw [e]
              exact ⟨by
                rw [xa_up_ne (by omega), xa_up_ne (by omega), xa_up_ne (by omega), xa_up_hit (by omega)]
                omega, by
                rw [xa_up_ne (by omega), xa_up_hit (by omega)]
                omega⟩
            · have f := hk.2.2.2.2.2.2.2 y y0 (by omega)
              exact ⟨by
                rw [xa_up_ne (by omega), xa_up_ne (by omega), xa_up_ne (by omega), xa_up_ne (by omega)]
                exact f.1, by
                rw [xa_up_ne (by omega), xa_up_ne (by omega), xa_up_ne (by omega), xa_up_ne (by omega)]
                exact f.2⟩⟩ (by omega)
    have loop2 : ∀ (n : Nat) (m : Int) (M1 : xa_M), 0 ≤ m → m ≤ 16 → M1 60 68 = 124 * a + 72 + 2 * m → xm_kpt M M1 a 14 m 0 → 16 - m < (n : Int) → Q 113 [(2, (0, 0, 0, 16, m)), (0, (2, 60, 0, 0, 0))] [] M1 := by
      intro n
      induction n with
      | zero => intro m M1 h1 h2 e68 hk hms; omega
      | succ n ih =>
        intro m M1 h1 h2 e68 hk hms
        have hs := fun q j (hn : ¬ xm_scr q j) (hq : ¬ q = 104 ∧ ¬ q = 105) => hk.1 q j hn hq.1 hq.2
        have s66 := hs 66 m (by omega) (by omega)
        have s67 := hs 67 m (by omega) (by omega)
        have s6 := hs 60 6 (by omega) (by omega)
        refine hgo.1 22 [41, 113, 147] 113 _ _ _ ?_
        refine And.intro ?_ ?_
        · intro (c1 : 16 ≤ m)
          show Q 147 [(2, (0, 0, 0, 0, 0)), (0, (2, 60, 0, 0, 0))] [] M1
          refine hgo.2.1 147 _ [(2, (0, 0, 0, 10, 0)), (0, (2, 60, 0, 0, 0))] _ _ (xa_subI rfl rfl (fun _ _ _ _ => by omega) (xa_subR rfl xa_sub0)) ?_
          rw [show m = 16 by omega] at hk e68
          exact loop3 11 0 M1 (by omega) (by omega) (by omega) hk (by omega)
        · intro (c1 : m < 16)
          refine And.intro (show 0 ≤ m ∧ m < 16 by omega) ?_
          show xa_C xm_I A h0 _ 294 [(2, 60, 0, 0, 0), (0, 0, 0, 13, M1 66 m)] M1 _
          refine ct_putCell (n := M1 60 68) (by first | rfl | omega | (simp [xa_up]; done)) (by omega) (by omega) ?_
          refine And.intro (show 0 ≤ m ∧ m < 16 by omega) ?_
          show xa_C xm_I A h0 _ 294 [(2, 60, 0, 0, 0), (0, 0, 0, 13, M1 67 m)] (xa_up (xa_up M1 104 (M1 60 68) (M1 66 m)) 60 68 ((M1 60 68) + 1)) _
          refine ct_putCell (n := (M1 60 68) + 1) (by first | rfl | omega | (simp [xa_up]; done)) (by omega) (by omega) ?_
          show Q 113 [(2, (0, 0, 1, 17, m + 1)), (0, (2, 60, 0, 0, 0))] [] (xa_up (xa_up (xa_up (xa_up M1 104 (M1 60 68) (M1 66 m)) 60 68 ((M1 60 68) + 1)) 104 ((M1 60 68) + 1) (M1 67 m)) 60 68 (((M1 60 68) + 1) + 1))
          refine hgo.2.1 113 _ [(2, (0, 0, 0, 16, m + 1)), (0, (2, 60, 0, 0, 0))] _ _ (xa_subI rfl rfl (fun _ _ _ _ => by omega) (xa_subR rfl xa_sub0)) ?_
          exact ih (m + 1) (xa_up (xa_up (xa_up (xa_up M1 104 (M1 60 68) (M1 66 m)) 60 68 ((M1 60 68) + 1)) 104 ((M1 60 68) + 1) (M1 67 m)) 60 68 (((M1 60 68) + 1) + 1)) (by omega) (by omega) (by rw [xa_up_hit (by omega)]; omega) ⟨fun q j hn h4 h5 => by
            rw [xa_up_ne (by omega), xa_up_ne (by omega), xa_up_ne (by omega), xa_up_ne (by omega)]
            exact hk.1 q j hn h4 h5,
          fun j hj => by
            rw [xa_up_ne (by omega), xa_up_ne (by omega), xa_up_ne (by omega), xa_up_ne (by omega)]
            exact hk.2.1 j hj,
          fun j hj => by
            rw [xa_up_ne (by omega), xa_up_ne (by omega), xa_up_ne (by omega), xa_up_ne (by omega)]
            exact hk.2.2.1 j hj,
          by
            rw [xa_up_ne (by omega), xa_up_ne (by omega), xa_up_ne (by omega), xa_up_ne (by omega)]
            exact hk.2.2.2.1,
          fun y y0 y1 => by
            have f := hk.2.2.2.2.1 y y0 y1
            exact ⟨by
              rw [xa_up_ne (by omega), xa_up_ne (by omega), xa_up_ne (by omega), xa_up_ne (by omega)]
              exact f.1, by
              rw [xa_up_ne (by omega), xa_up_ne (by omega), xa_up_ne (by omega), xa_up_ne (by omega)]
              exact f.2.1, by
              rw [xa_up_ne (by omega), xa_up_ne (by omega), xa_up_ne (by omega), xa_up_ne (by omega)]
              exact f.2.2.1, by
              rw [xa_up_ne (by omega), xa_up_ne (by omega), xa_up_ne (by omega), xa_up_ne (by omega)]
              exact f.2.2.2.1, by
              rw [xa_up_ne (by omega), xa_up_ne (by omega), xa_up_ne (by omega), xa_up_ne (by omega)]
              exact f.2.2.2.2⟩,
          fun h => by
            rw [xa_up_ne (by omega), xa_up_ne (by omega), xa_up_ne (by omega), xa_up_ne (by omega)]
            exact hk.2.2.2.2.2.1 (by omega),
          fun y y0 y1 => by
            by_cases e : y = m
            · rw [e]
              exact ⟨by
                rw [xa_up_ne (by omega), xa_up_ne (by omega), xa_up_ne (by omega), xa_up_hit (by omega)]
                omega, by
                rw [xa_up_ne (by omega), xa_up_hit (by omega)]
                omega⟩
            · have f := hk.2.2.2.2.2.2.1 y y0 (by omega)
              exact ⟨by
                rw [xa_up_ne (by omega), xa_up_ne (by omega), xa_up_ne (by omega), xa_up_ne (by omega)]
                exact f.1, by
                rw [xa_up_ne (by omega), xa_up_ne (by omega), xa_up_ne (by omega), xa_up_ne (by omega)]
                exact f.2⟩,
          fun y y0 y1 => by
            have f := hk.2.2.2.2.2.2.2 y y0 y1
            exact ⟨by
              rw [xa_up_ne (by omega), xa_up_ne (by omega), xa_up_ne (by omega), xa_up_ne (by omega)]
              exact f.1, by
              rw [xa_up_ne (by omega), xa_up_ne (by omega), xa_up_ne (by omega), xa_up_ne (by omega)]
              exact f.2⟩⟩ (by omega)
    have loop1 : ∀ (n : Nat) (w : Int) (M1 : xa_M), 0 ≤ w → w ≤ 14 → M1 60 68 = 124 * a + 1 + 5 * w → xm_kpt M M1 a w (-1) 0 → 14 - w < (n : Int) → Q 41 [(2, (0, 0, 0, 14, w)), (0, (2, 60, 0, 0, 0))] [] M1 := by
      intro n
      induction n with
      | zero => intro w M1 h1 h2 e68 hk hms; omega
      | succ n ih =>
        intro w M1 h1 h2 e68 hk hms
        have hs := fun q j (hn : ¬ xm_scr q j) (hq : ¬ q = 104 ∧ ¬ q = 105) => hk.1 q j hn hq.1 hq.2
        have s61 := hs 61 w (by omega) (by omega)
        have s62 := hs 62 w (by omega) (by omega)
        have s63 := hs 63 w (by omega) (by omega)
        have s64 := hs 64 w (by omega) (by omega)
        have s65 := hs 65 w (by omega) (by omega)
        have s6 := hs 60 6 (by omega) (by omega)
        refine hgo.1 40 [41, 113, 147] 41 _ _ _ ?_
        refine And.intro ?_ ?_
        · intro (c1 : 14 ≤ w)
          show xa_C xm_I A h0 _ 294 [(2, 60, 0, 0, 0), (0, 0, 0, 16, M1 60 6)] M1 _
          refine ct_putCell (n := M1 60 68) (by first | rfl | omega | (simp [xa_up]; done)) (by omega) (by omega) ?_
          show Q 113 [(2, (0, 0, 0, 0, 0)), (0, (2, 60, 0, 0, 0))] [] (xa_up (xa_up M1 104 (M1 60 68) (M1 60 6)) 60 68 ((M1 60 68) + 1))
          refine hgo.2.1 113 _ [(2, (0, 0, 0, 16, 0)), (0, (2, 60, 0, 0, 0))] _ _ (xa_subI rfl rfl (fun _ _ _ _ => by omega) (xa_subR rfl xa_sub0)) ?_
          rw [show w = 14 by omega] at hk e68
          exact loop2 17 0 (xa_up (xa_up M1 104 (M1 60 68) (M1 60 6)) 60 68 ((M1 60 68) + 1)) (by omega) (by omega) (by rw [xa_up_hit (by omega)]; omega) ⟨fun q j hn h4 h5 => by
            rw [xa_up_ne (by omega), xa_up_ne (by omega)]
            exact hk.1 q j hn h4 h5,
          fun j hj => by
            rw [xa_up_ne (by omega), xa_up_ne (by omega)]
            exact hk.2.1 j hj,
          fun j hj => by
            rw [xa_up_ne (by omega), xa_up_ne (by omega)]
            exact hk.2.2.1 j hj,
          by
            rw [xa_up_ne (by omega), xa_up_ne (by omega)]
            exact hk.2.2.2.1,
          fun y y0 y1 => by
            have f := hk.2.2.2.2.1 y y0 y1
            exact ⟨by
              rw [xa_up_ne (by omega), xa_up_ne (by omega)]
              exact f.1, by
              rw [xa_up_ne (by omega), xa_up_ne (by omega)]
              exact f.2.1, by
              rw [xa_up_ne (by omega), xa_up_ne (by omega)]
              exact f.2.2.1, by
              rw [xa_up_ne (by omega), xa_up_ne (by omega)]
              exact f.2.2.2.1, by
              rw [xa_up_ne (by omega), xa_up_ne (by omega)]
              exact f.2.2.2.2⟩,
          fun _ => by
            rw [xa_up_ne (by omega), xa_up_hit (by omega)]
            exact s6,
          fun y y0 y1 => by omega,
          fun y y0 y1 => by
            have f := hk.2.2.2.2.2.2.2 y y0 y1
            exact ⟨by
              rw [xa_up_ne (by omega), xa_up_ne (by omega)]
              exact f.1, by
              rw [xa_up_ne (by omega), xa_up_ne (by omega)]
              exact f.2⟩⟩ (by omega)
        · intro (c1 : w < 14)
          refine And.intro (show 0 ≤ w ∧ w < 14 by omega) ?_
          show xa_C xm_I A h0 _ 294 [(2, 60, 0, 0, 0), (0, 0, 0, 400, M1 61 w)] M1 _
          refine ct_putCell (n := M1 60 68) (by first | rfl | omega | (simp [xa_up]; done)) (by omega) (by omega) ?_
          refine And.intro (show 0 ≤ w ∧ w < 14 by omega) ?_
          show xa_C xm_I A h0 _ 294 [(2, 60, 0, 0, 0), (0, 0, 0, 400, M1 62 w)] (xa_up (xa_up M1 104 (M1 60 68) (M1 61 w)) 60 68 ((M1 60 68) + 1)) _
          refine ct_putCell (n := (M1 60 68) + 1) (by first | rfl | omega | (simp [xa_up]; done)) (by omega) (by omega) ?_
          refine And.intro (show 0 ≤ w ∧ w < 14 by omega) ?_
          show xa_C xm_I A h0 _ 294 [(2, 60, 0, 0, 0), (0, 0, 0, 400, M1 63 w)] (xa_up (xa_up (xa_up (xa_up M1 104 (M1 60 68) (M1 61 w)) 60 68 ((M1 60 68) + 1)) 104 ((M1 60 68) + 1) (M1 62 w)) 60 68 (((M1 60 68) + 1) + 1)) _
          refine ct_putCell (n := ((M1 60 68) + 1) + 1) (by first | rfl | omega | (simp [xa_up]; done)) (by omega) (by omega) ?_
          refine And.intro (show 0 ≤ w ∧ w < 14 by omega) ?_
          show xa_C xm_I A h0 _ 294 [(2, 60, 0, 0, 0), (0, 0, 0, 9, M1 64 w)] (xa_up (xa_up (xa_up (xa_up (xa_up (xa_up M1 104 (M1 60 68) (M1 61 w)) 60 68 ((M1 60 68) + 1)) 104 ((M1 60 68) + 1) (M1 62 w)) 60 68 (((M1 60 68) + 1) + 1)) 104 (((M1 60 68) + 1) + 1) (M1 63 w)) 60 68 ((((M1 60 68) + 1) + 1) + 1)) _
          refine ct_putCell (n := (((M1 60 68) + 1) + 1) + 1) (by first | rfl | omega | (simp [xa_up]; done)) (by omega) (by omega) ?_
          refine And.intro (show 0 ≤ w ∧ w < 14 by omega) ?_
          show xa_C xm_I A h0 _ 294 [(2, 60, 0, 0, 0), (0, 0, 0, 9, M1 65 w)] (xa_up (xa_up (xa_up (xa_up (xa_up (xa_up (xa_up (xa_up M1 104 (M1 60 68) (M1 61 w)) 60 68 ((M1 60 68) + 1)) 104 ((M1 60 68) + 1) (M1 62 w)) 60 68 (((M1 60 68) + 1) + 1)) 104 (((M1 60 68) + 1) + 1) (M1 63 w)) 60 68 ((((M1 60 68) + 1) + 1) + 1)) 104 ((((M1 60 68) + 1) + 1) + 1) (M1 64 w)) 60 68 (((((M1 60 68) + 1) + 1) + 1) + 1)) _
          refine ct_putCell (n := ((((M1 60 68) + 1) + 1) + 1) + 1) (by first | rfl | omega | (simp [xa_up]; done)) (by omega) (by omega) ?_
          show Q 41 [(2, (0, 0, 1, 15, w + 1)), (0, (2, 60, 0, 0, 0))] [] (xa_up (xa_up (xa_up (xa_up (xa_up (xa_up (xa_up (xa_up (xa_up (xa_up M1 104 (M1 60 68) (M1 61 w)) 60 68 ((M1 60 68) + 1)) 104 ((M1 60 68) + 1) (M1 62 w)) 60 68 (((M1 60 68) + 1) + 1)) 104 (((M1 60 68) + 1) + 1) (M1 63 w)) 60 68 ((((M1 60 68) + 1) + 1) + 1)) 104 ((((M1 60 68) + 1) + 1) + 1) (M1 64 w)) 60 68 (((((M1 60 68) + 1) + 1) + 1) + 1)) 104 (((((M1 60 68) + 1) + 1) + 1) + 1) (M1 65 w)) 60 68 ((((((M1 60 68) + 1) + 1) + 1) + 1) + 1))
          refine hgo.2.1 41 _ [(2, (0, 0, 0, 14, w + 1)), (0, (2, 60, 0, 0, 0))] _ _ (xa_subI rfl rfl (fun _ _ _ _ => by omega) (xa_subR rfl xa_sub0)) ?_
          exact ih (w + 1) (xa_up (xa_up (xa_up (xa_up (xa_up (xa_up (xa_up (xa_up (xa_up (xa_up M1 104 (M1 60 68) (M1 61 w)) 60 68 ((M1 60 68) + 1)) 104 ((M1 60 68) + 1) (M1 62 w)) 60 68 (((M1 60 68) + 1) + 1)) 104 (((M1 60 68) + 1) + 1) (M1 63 w)) 60 68 ((((M1 60 68) + 1) + 1) + 1)) 104 ((((M1 60 68) + 1) + 1) + 1) (M1 64 w)) 60 68 (((((M1 60 68) + 1) + 1) + 1) + 1)) 104 (((((M1 60 68) + 1) + 1) + 1) + 1) (M1 65 w)) 60 68 ((((((M1 60 68) + 1) + 1) + 1) + 1) + 1)) (by omega) (by omega) (by rw [xa_up_hit (by omega)]; omega) ⟨fun q j hn h4 h5 => by
            rw [xa_up_ne (by omega), xa_up_ne (by omega), xa_up_ne (by omega), xa_up_ne (by omega), xa_up_ne (by omega), xa_up_ne (by omega), xa_up_ne (by omega), xa_up_ne (by omega), xa_up_ne (by omega), xa_up_ne (by omega)]
            exact hk.1 q j hn h4 h5,
          fun j hj => by
            rw [xa_up_ne (by omega), xa_up_ne (by omega), xa_up_ne (by omega), xa_up_ne (by omega), xa_up_ne (by omega), xa_up_ne (by omega), xa_up_ne (by omega), xa_up_ne (by omega), xa_up_ne (by omega), xa_up_ne (by omega)]
            exact hk.2.1 j hj,
          fun j hj => by
            rw [xa_up_ne (by omega), xa_up_ne (by omega), xa_up_ne (by omega), xa_up_ne (by omega), xa_up_ne (by omega), xa_up_ne (by omega), xa_up_ne (by omega), xa_up_ne (by omega), xa_up_ne (by omega), xa_up_ne (by omega)]
            exact hk.2.2.1 j hj,
          by
            rw [xa_up_ne (by omega), xa_up_ne (by omega), xa_up_ne (by omega), xa_up_ne (by omega), xa_up_ne (by omega), xa_up_ne (by omega), xa_up_ne (by omega), xa_up_ne (by omega), xa_up_ne (by omega), xa_up_ne (by omega)]
            exact hk.2.2.2.1,
          fun y y0 y1 => by
            by_cases e : y = w
            · rw [e]
              exact ⟨by
                rw [xa_up_ne (by omega), xa_up_ne (by omega), xa_up_ne (by omega), xa_up_ne (by omega), xa_up_ne (by omega), xa_up_ne (by omega), xa_up_ne (by omega), xa_up_ne (by omega), xa_up_ne (by omega), xa_up_hit (by omega)]
                omega, by
                rw [xa_up_ne (by omega), xa_up_ne (by omega), xa_up_ne (by omega), xa_up_ne (by omega), xa_up_ne (by omega), xa_up_ne (by omega), xa_up_ne (by omega), xa_up_hit (by omega)]
                omega, by
                rw [xa_up_ne (by omega), xa_up_ne (by omega), xa_up_ne (by omega), xa_up_ne (by omega), xa_up_ne (by omega), xa_up_hit (by omega)]
                omega, by
                rw [xa_up_ne (by omega), xa_up_ne (by omega), xa_up_ne (by omega), xa_up_hit (by omega)]
                omega, by
                rw [xa_up_ne (by omega), xa_up_hit (by omega)]
                omega⟩
            · have f := hk.2.2.2.2.1 y y0 (by omega)
              exact ⟨by
                rw [xa_up_ne (by omega), xa_up_ne (by omega), xa_up_ne (by omega), xa_up_ne (by omega), xa_up_ne (by omega), xa_up_ne (by omega), xa_up_ne (by omega), xa_up_ne (by omega), xa_up_ne (by omega), xa_up_ne (by omega)]
                exact f.1, by
                rw [xa_up_ne (by omega), xa_up_ne (by omega), xa_up_ne (by omega), xa_up_ne (by omega), xa_up_ne (by omega), xa_up_ne (by omega), xa_up_ne (by omega), xa_up_ne (by omega), xa_up_ne (by omega), xa_up_ne (by omega)]
                exact f.2.1, by
                rw [xa_up_ne (by omega), xa_up_ne (by omega), xa_up_ne (by omega), xa_up_ne (by omega), xa_up_ne (by omega), xa_up_ne (by omega), xa_up_ne (by omega), xa_up_ne (by omega), xa_up_ne (by omega), xa_up_ne (by omega)]
                exact f.2.2.1, by
                rw [xa_up_ne (by omega), xa_up_ne (by omega), xa_up_ne (by omega), xa_up_ne (by omega), xa_up_ne (by omega), xa_up_ne (by omega), xa_up_ne (by omega), xa_up_ne (by omega), xa_up_ne (by omega), xa_up_ne (by omega)]
                exact f.2.2.2.1, by
                rw [xa_up_ne (by omega), xa_up_ne (by omega), xa_up_ne (by omega), xa_up_ne (by omega), xa_up_ne (by omega), xa_up_ne (by omega), xa_up_ne (by omega), xa_up_ne (by omega), xa_up_ne (by omega), xa_up_ne (by omega)]
                exact f.2.2.2.2⟩,
          fun h => by
            rw [xa_up_ne (by omega), xa_up_ne (by omega), xa_up_ne (by omega), xa_up_ne (by omega), xa_up_ne (by omega), xa_up_ne (by omega), xa_up_ne (by omega), xa_up_ne (by omega), xa_up_ne (by omega), xa_up_ne (by omega)]
            exact hk.2.2.2.2.2.1 (by omega),
          fun y y0 y1 => by
            have f := hk.2.2.2.2.2.2.1 y y0 y1
            exact ⟨by
              rw [xa_up_ne (by omega), xa_up_ne (by omega), xa_up_ne (by omega), xa_up_ne (by omega), xa_up_ne (by omega), xa_up_ne (by omega), xa_up_ne (by omega), xa_up_ne (by omega), xa_up_ne (by omega), xa_up_ne (by omega)]
              exact f.1, by
              rw [xa_up_ne (by omega), xa_up_ne (by omega), xa_up_ne (by omega), xa_up_ne (by omega), xa_up_ne (by omega), xa_up_ne (by omega), xa_up_ne (by omega), xa_up_ne (by omega), xa_up_ne (by omega), xa_up_ne (by omega)]
              exact f.2⟩,
          fun y y0 y1 => by
            have f := hk.2.2.2.2.2.2.2 y y0 y1
            exact ⟨by
              rw [xa_up_ne (by omega), xa_up_ne (by omega), xa_up_ne (by omega), xa_up_ne (by omega), xa_up_ne (by omega), xa_up_ne (by omega), xa_up_ne (by omega), xa_up_ne (by omega), xa_up_ne (by omega), xa_up_ne (by omega)]
              exact f.1, by
              rw [xa_up_ne (by omega), xa_up_ne (by omega), xa_up_ne (by omega), xa_up_ne (by omega), xa_up_ne (by omega), xa_up_ne (by omega), xa_up_ne (by omega), xa_up_ne (by omega), xa_up_ne (by omega), xa_up_ne (by omega)]
              exact f.2⟩⟩ (by omega)
    intro M0 e hk
    exact hgo.2.1 41 _ [(2, (0, 0, 0, 14, 0)), (0, (2, 60, 0, 0, 0))] _ _ (xa_subI rfl rfl (fun _ _ _ _ => by omega) (xa_subR rfl xa_sub0)) (loop1 15 0 M0 (by omega) (by omega) (by omega) hk (by omega))
  refine hgo.1 14 [16] 0 _ _ _ ?_
  show xa_C xm_I A h0 _ 214 [(0, 0, (-2147483648), 2147483647, a), (0, 0, 0, 0, 0), (0, 0, 3, 3, 3)] (xa_up M 60 21 0) _
  refine ct_in ?_ ?_
  · intro (i1 : 0 ≤ a ∧ a ≤ 3)
    show Q 16 [(0, (2, 60, 0, 0, 0)), (1, (0, 0, (-2147483648), 2147483647, a))] [] (xa_up M 60 21 0)
    refine hgo.2.1 16 _ [(0, (2, 60, 0, 0, 0)), (1, (0, 0, 0, 3, a))] _ _ (xa_subR rfl (xa_subI rfl rfl (fun _ _ _ _ => by omega) xa_sub0)) ?_
    refine hgo.1 21 [41] 16 _ _ _ ?_
    show xa_C xm_I A h0 _ 294 [(2, 60, 0, 0, 0), (0, 0, 0, 14, M 60 0)] (xa_up (xa_up (xa_up M 60 21 0) 105 a 1) 60 68 (124 * a)) _
    refine ct_putCell (n := 124 * a) (by first | rfl | omega | (simp [xa_up]; done)) (by omega) (by omega) ?_
    show Q 41 [(2, (0, 0, 0, 0, 0)), (0, (2, 60, 0, 0, 0)), (1, (0, 0, 0, 3, a))] [] (xa_up (xa_up (xa_up (xa_up (xa_up M 60 21 0) 105 a 1) 60 68 (124 * a)) 104 (124 * a) (M 60 0)) 60 68 ((124 * a) + 1))
    refine hgo.2.1 41 _ [(2, (0, 0, 0, 14, 0)), (0, (2, 60, 0, 0, 0))] _ _ (xa_subI rfl rfl (fun _ _ _ _ => by omega) (xa_subR rfl xa_sub0)) ?_
    exact key (by omega) (by omega) (xa_up (xa_up (xa_up (xa_up (xa_up M 60 21 0) 105 a 1) 60 68 (124 * a)) 104 (124 * a) (M 60 0)) 60 68 ((124 * a) + 1)) (by rw [xa_up_hit (by omega)]) ⟨fun q j hn h4 h5 => by
      rw [xa_up_ne (by omega), xa_up_ne (by omega), xa_up_ne (by omega), xa_up_ne (by omega), xa_up_ne (by omega)],
    fun j hj => by
      rw [xa_up_ne (by omega), xa_up_ne (by omega), xa_up_ne (by omega), xa_up_ne (by omega), xa_up_ne (by omega)],
    fun j hj => by
      rw [xa_up_ne (by omega), xa_up_ne (by omega), xa_up_ne (by omega), xa_up_ne (by omega), xa_up_ne (by omega)],
    by
      rw [xa_up_ne (by omega), xa_up_hit (by omega)],
    fun y y0 y1 => by omega,
    fun h => by omega,
    fun y y0 y1 => by omega,
    fun y y0 y1 => by omega⟩
  · intro (i1 : ¬ (0 ≤ a ∧ a ≤ 3))
    show post (some (0, 0, 0, 0, 0)) (xa_up M 60 21 0)
    exact k _ _ (xm_Inv_cor (xm_cor_f (by omega) xm_cor_r) hI)
