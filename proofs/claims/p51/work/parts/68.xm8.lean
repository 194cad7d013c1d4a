-- a kept build again; two of them (made by wip/p24/xa/xm8.py)
set_option maxRecDepth 20000
/-- what again has read -/
def xm_agn (M M1 : xa_M) (a : Int) (w m : Int) : Prop := (∀ q j, ¬ xm_scr q j → ¬ (q = 60 ∧ (j = 0 ∨ j = 6)) → ¬ (61 ≤ q ∧ q ≤ 69) → M1 q j = M q j) ∧ M1 60 0 = M 104 (124 * a) ∧ (∀ y, 0 ≤ y → y < w → M1 61 y = M 104 (124 * a + 1 + 5 * y) ∧ M1 62 y = M 104 (124 * a + 2 + 5 * y) ∧ M1 63 y = M 104 (124 * a + 3 + 5 * y)) ∧ (0 ≤ m → M1 60 6 = M 104 (124 * a + 71)) ∧ (∀ y, 0 ≤ y → y < m → M1 66 y = M 104 (124 * a + 72 + 2 * y) ∧ M1 67 y = M 104 (124 * a + 73 + 2 * y))
theorem xm_agn_Inv {M M1 : xa_M} {a : Int} (hI : xm_Inv M) (hb : xm_bld M a) (h : xm_agn M M1 a 14 16) : xm_Inv M1 := by
  obtain ⟨h1, h2, h3, h4, h5⟩ := h
  have h6 := h4 (by omega)
  have b1 := hb.1
  have b3 := hb.2.2.1
  refine ⟨fun w w0 w1 => ?_, fun m m0 m1 => ?_, fun p p0 p1 => ?_, ?_, fun i i0 i1 i2 => ?_⟩
  · have f := h3 w w0 (by omega)
    have g := hb.2.1 w w0 (by omega)
    omega
  · have f := h5 m m0 (by omega)
    have g := hb.2.2.2.1 m m0 (by omega)
    omega
  · rw [h1 60 11 (by omega) (by omega) (by omega)] at p1
    rw [h1 70 p (by omega) (by omega) (by omega), h1 71 p (by omega) (by omega) (by omega)]
    exact hI.2.2.1 p p0 p1
  · rw [h1 60 15 (by omega) (by omega) (by omega), h1 60 16 (by omega) (by omega) (by omega)]
    exact hI.2.2.2.1
  · rw [h1 105 i (by omega) (by omega) (by omega)] at i2
    exact xm_bld_2 (fun j _ _ => h1 104 j (by omega) (by omega) (by omega)) (hI.2.2.2.2 i i0 i1 i2)
theorem ms_again {A : Nat → Nat} {h0 : g_H} {d : Nat} {M : xa_M} {post : Option xa_V → xa_M → Prop} {l1 u1 : Int} {a : Int} (hI : xm_Inv M) (k : ∀ (o : Option xa_V) (M1 : xa_M), xm_Inv M1 → post o M1) : xa_C xm_I A h0 (d + 2) 295 [(2, 60, 0, 0, 0), (0, 0, l1, u1, a)] M post := by
  refine xa_C_arg [(2, 60, 0, 0, 0), (0, 0, (-2147483648), 2147483647, a)] (xa_svR (xa_svI (fun _ _ _ _ => by omega) xa_sv0)) ?_
  refine xa_meth (Q0 := (3, 2, false, 0, 0, 12)) (by decide +kernel) ⟨rfl, rfl⟩ (full := s_c_295) rfl rfl ?_
  intro hM hv Q hgo
  have t105 := fun h0 h1 => xm_t105 hM a h0 h1
  have key : 0 ≤ a → a ≤ 3 → xm_bld M a → ∀ (M0 : xa_M), M0 60 68 = 124 * a + 1 → xm_agn M M0 a 0 (-1) → Q 43 [(2, (0, 0, 0, 14, 0)), (0, (2, 60, 0, 0, 0))] [] M0 := by
    intro a0 a1 hb
    have loop3 : ∀ (n : Nat) (x : Int) (M1 : xa_M), 0 ≤ x → x ≤ 10 → M1 60 68 = 124 * a + 104 + 2 * x → xm_agn M M1 a 14 16 → 10 - x < (n : Int) → Q 149 [(2, (0, 0, 0, 10, x)), (0, (2, 60, 0, 0, 0))] [] M1 := by
      intro n
      induction n with
      | zero => intro x M1 h1 h2 e68 hk hms; omega
      | succ n ih =>
        intro x M1 h1 h2 e68 hk hms
        have h4 := fun j => hk.1 104 j (by omega) (by omega) (by omega)
        have g := hb.2.2.2.2 x h1
        have gg := hb.2.2.1
        have f0 := h4 (124 * a + 104 + 2 * x)
        have f1 := h4 (124 * a + 105 + 2 * x)
        refine hgo.1 22 [43, 115, 149] 149 _ _ _ ?_
        refine And.intro ?_ ?_
        · intro (c1 : 10 ≤ x)
          show post (some (0, 0, 1, 1, 1)) M1
          exact k _ _ (xm_agn_Inv hI hb hk)
        · intro (c1 : x < 10)
          show xa_C xm_I A h0 _ 296 [(2, 60, 0, 0, 0)] M1 _
          refine ct_nextCell (n := 124 * a + 104 + 2 * x) (by first | exact e68 | (simp [xa_up]; omega)) (by omega) (by omega) ?_
          refine And.intro (show 0 ≤ x ∧ x < 10 by omega) ?_
          refine And.intro (show (-500) ≤ (M1 104 (124 * a + 104 + 2 * x)) ∧ (M1 104 (124 * a + 104 + 2 * x)) ≤ 500 by omega) ?_
          show xa_C xm_I A h0 _ 296 [(2, 60, 0, 0, 0)] (xa_up (xa_up M1 60 68 ((124 * a + 104 + 2 * x) + 1)) 68 x (M1 104 (124 * a + 104 + 2 * x))) _
          refine ct_nextCell (n := 124 * a + 105 + 2 * x) (by first | exact e68 | (simp [xa_up]; omega)) (by omega) (by omega) ?_
          refine And.intro (show 0 ≤ x ∧ x < 10 by omega) ?_
          refine And.intro (show (-500) ≤ (M1 104 (124 * a + 105 + 2 * x)) ∧ (M1 104 (124 * a + 105 + 2 * x)) ≤ 500 by omega) ?_
          show Q 149 [(2, (0, 0, 1, 11, x + 1)), (0, (2, 60, 0, 0, 0))] [] (xa_up (xa_up (xa_up (xa_up M1 60 68 ((124 * a + 104 + 2 * x) + 1)) 68 x (M1 104 (124 * a + 104 + 2 * x))) 60 68 ((124 * a + 105 + 2 * x) + 1)) 69 x (M1 104 (124 * a + 105 + 2 * x)))
          refine hgo.2.1 149 _ [(2, (0, 0, 0, 10, x + 1)), (0, (2, 60, 0, 0, 0))] _ _ (xa_subI rfl rfl (fun _ _ _ _ => by omega) (xa_subR rfl xa_sub0)) ?_
          exact ih (x + 1) (xa_up (xa_up (xa_up (xa_up M1 60 68 ((124 * a + 104 + 2 * x) + 1)) 68 x (M1 104 (124 * a + 104 + 2 * x))) 60 68 ((124 * a + 105 + 2 * x) + 1)) 69 x (M1 104 (124 * a + 105 + 2 * x))) (by omega) (by omega) (by rw [xa_up_ne (by omega), xa_up_hit (by omega)]; omega) ⟨fun q j hn h4 h5 => by
            rw [xa_up_ne (by omega), xa_up_ne (by omega), xa_up_ne (by omega), xa_up_ne (by omega)]
            exact hk.1 q j hn h4 h5,
          by
            rw [xa_up_ne (by omega), xa_up_ne (by omega), xa_up_ne (by omega), xa_up_ne (by omega)]
            exact hk.2.1,
          fun y y0 y1 => by
            have f := hk.2.2.1 y y0 y1
            exact ⟨by
              rw [xa_up_ne (by omega), xa_up_ne (by omega), xa_up_ne (by omega), xa_up_ne (by omega)]
              exact f.1, by
              rw [xa_up_ne (by omega), xa_up_ne (by omega), xa_up_ne (by omega), xa_up_ne (by omega)]
              exact f.2.1, by
              rw [xa_up_ne (by omega), xa_up_ne (by omega), xa_up_ne (by omega), xa_up_ne (by omega)]
              exact f.2.2⟩,
          fun h => by
            rw [xa_up_ne (by omega), xa_up_ne (by omega), xa_up_ne (by omega), xa_up_ne (by omega)]
            exact hk.2.2.2.1 (by omega),
          fun y y0 y1 => by
            have f := hk.2.2.2.2 y y0 y1
            exact ⟨by
              rw [xa_up_ne (by omega), xa_up_ne (by omega), xa_up_ne (by omega), xa_up_ne (by omega)]
              exact f.1, by
              rw [xa_up_ne (by omega), xa_up_ne (by omega), xa_up_ne (by omega), xa_up_ne (by omega)]
              exact f.2⟩⟩ (by omega)
    have loop2 : ∀ (n : Nat) (m : Int) (M1 : xa_M), 0 ≤ m → m ≤ 16 → M1 60 68 = 124 * a + 72 + 2 * m → xm_agn M M1 a 14 m → 16 - m < (n : Int) → Q 115 [(2, (0, 0, 0, 16, m)), (0, (2, 60, 0, 0, 0))] [] M1 := by
      intro n
      induction n with
      | zero => intro m M1 h1 h2 e68 hk hms; omega
      | succ n ih =>
        intro m M1 h1 h2 e68 hk hms
        have h4 := fun j => hk.1 104 j (by omega) (by omega) (by omega)
        have g := hb.2.2.2.1 m h1
        have gg := hb.2.2.1
        have f0 := h4 (124 * a + 72 + 2 * m)
        have f1 := h4 (124 * a + 73 + 2 * m)
        refine hgo.1 22 [43, 115, 149] 115 _ _ _ ?_
        refine And.intro ?_ ?_
        · intro (c1 : 16 ≤ m)
          show Q 149 [(2, (0, 0, 0, 0, 0)), (0, (2, 60, 0, 0, 0))] [] M1
          refine hgo.2.1 149 _ [(2, (0, 0, 0, 10, 0)), (0, (2, 60, 0, 0, 0))] _ _ (xa_subI rfl rfl (fun _ _ _ _ => by omega) (xa_subR rfl xa_sub0)) ?_
          rw [show m = 16 by omega] at hk e68
          exact loop3 11 0 M1 (by omega) (by omega) (by omega) hk (by omega)
        · intro (c1 : m < 16)
          show xa_C xm_I A h0 _ 296 [(2, 60, 0, 0, 0)] M1 _
          refine ct_nextCell (n := 124 * a + 72 + 2 * m) (by first | exact e68 | (simp [xa_up]; omega)) (by omega) (by omega) ?_
          refine And.intro (show 0 ≤ m ∧ m < 16 by omega) ?_
          refine And.intro (show 0 ≤ (M1 104 (124 * a + 72 + 2 * m)) ∧ (M1 104 (124 * a + 72 + 2 * m)) ≤ 13 by omega) ?_
          show xa_C xm_I A h0 _ 296 [(2, 60, 0, 0, 0)] (xa_up (xa_up M1 60 68 ((124 * a + 72 + 2 * m) + 1)) 66 m (M1 104 (124 * a + 72 + 2 * m))) _
          refine ct_nextCell (n := 124 * a + 73 + 2 * m) (by first | exact e68 | (simp [xa_up]; omega)) (by omega) (by omega) ?_
          refine And.intro (show 0 ≤ m ∧ m < 16 by omega) ?_
          refine And.intro (show 0 ≤ (M1 104 (124 * a + 73 + 2 * m)) ∧ (M1 104 (124 * a + 73 + 2 * m)) ≤ 13 by omega) ?_
          show Q 115 [(2, (0, 0, 1, 17, m + 1)), (0, (2, 60, 0, 0, 0))] [] (xa_up (xa_up (xa_up (xa_up M1 60 68 ((124 * a + 72 + 2 * m) + 1)) 66 m (M1 104 (124 * a + 72 + 2 * m))) 60 68 ((124 * a + 73 + 2 * m) + 1)) 67 m (M1 104 (124 * a + 73 + 2 * m)))
          refine hgo.2.1 115 _ [(2, (0, 0, 0, 16, m + 1)), (0, (2, 60, 0, 0, 0))] _ _ (xa_subI rfl rfl (fun _ _ _ _ => by omega) (xa_subR rfl xa_sub0)) ?_
          exact ih (m + 1) (xa_up (xa_up (xa_up (xa_up M1 60 68 ((124 * a + 72 + 2 * m) + 1)) 66 m (M1 104 (124 * a + 72 + 2 * m))) 60 68 ((124 * a + 73 + 2 * m) + 1)) 67 m (M1 104 (124 * a + 73 + 2 * m))) (by omega) (by omega) (by rw [xa_up_ne (by omega), xa_up_hit (by omega)]; omega) ⟨fun q j hn h4 h5 => by
            rw [xa_up_ne (by omega), xa_up_ne (by omega), xa_up_ne (by omega), xa_up_ne (by omega)]
            exact hk.1 q j hn h4 h5,
          by
            rw [xa_up_ne (by omega), xa_up_ne (by omega), xa_up_ne (by omega), xa_up_ne (by omega)]
            exact hk.2.1,
          fun y y0 y1 => by
            have f := hk.2.2.1 y y0 y1
            exact ⟨by
              rw [xa_up_ne (by omega), xa_up_ne (by omega), xa_up_ne (by omega), xa_up_ne (by omega)]
              exact f.1, by
              rw [xa_up_ne (by omega), xa_up_ne (by omega), xa_up_ne (by omega), xa_up_ne (by omega)]
              exact f.2.1, by
              rw [xa_up_ne (by omega), xa_up_ne (by omega), xa_up_ne (by omega), xa_up_ne (by omega)]
              exact f.2.2⟩,
          fun h => by
            rw [xa_up_ne (by omega), xa_up_ne (by omega), xa_up_ne (by omega), xa_up_ne (by omega)]
            exact hk.2.2.2.1 (by omega),
          fun y y0 y1 => by
            by_cases e : y = m
            · rw [e]
              exact ⟨by
                rw [xa_up_ne (by omega), xa_up_ne (by omega), xa_up_hit (by omega)]
                exact hk.1 104 _ (by omega) (by omega) (by omega), by
                rw [xa_up_hit (by omega)]
                exact hk.1 104 _ (by omega) (by omega) (by omega)⟩
            · have f := hk.2.2.2.2 y y0 (by omega)
              exact ⟨by
                rw [xa_up_ne (by omega), xa_up_ne (by omega), xa_up_ne (by omega), xa_up_ne (by omega)]
                exact f.1, by
                rw [xa_up_ne (by omega), xa_up_ne (by omega), xa_up_ne (by omega), xa_up_ne (by omega)]
                exact f.2⟩⟩ (by omega)
    have loop1 : ∀ (n : Nat) (w : Int) (M1 : xa_M), 0 ≤ w → w ≤ 14 → M1 60 68 = 124 * a + 1 + 5 * w → xm_agn M M1 a w (-1) → 14 - w < (n : Int) → Q 43 [(2, (0, 0, 0, 14, w)), (0, (2, 60, 0, 0, 0))] [] M1 := by
      intro n
      induction n with
      | zero => intro w M1 h1 h2 e68 hk hms; omega
      | succ n ih =>
        intro w M1 h1 h2 e68 hk hms
        have h4 := fun j => hk.1 104 j (by omega) (by omega) (by omega)
        have g := hb.2.1 w h1
        have gg := hb.2.2.1
        have f0 := h4 (124 * a + 1 + 5 * w)
        have f1 := h4 (124 * a + 2 + 5 * w)
        have f2 := h4 (124 * a + 3 + 5 * w)
        have f3 := h4 (124 * a + 4 + 5 * w)
        have f4 := h4 (124 * a + 5 + 5 * w)
        have f6 := h4 (124 * a + 71)
        have e71 : 14 ≤ w → M1 60 68 = 124 * a + 71 := fun h => by omega
        refine hgo.1 40 [43, 115, 149] 43 _ _ _ ?_
        refine And.intro ?_ ?_
        · intro (c1 : 14 ≤ w)
          show xa_C xm_I A h0 _ 296 [(2, 60, 0, 0, 0)] M1 _
          refine ct_nextCell (n := 124 * a + 71) (by first | omega | exact e68 | (simp [xa_up]; omega)) (by omega) (by omega) ?_
          refine And.intro (show 0 ≤ (M1 104 (124 * a + 71)) ∧ (M1 104 (124 * a + 71)) ≤ 16 by omega) ?_
          show Q 115 [(2, (0, 0, 0, 0, 0)), (0, (2, 60, 0, 0, 0))] [] (xa_up (xa_up M1 60 68 ((124 * a + 71) + 1)) 60 6 (M1 104 (124 * a + 71)))
          refine hgo.2.1 115 _ [(2, (0, 0, 0, 16, 0)), (0, (2, 60, 0, 0, 0))] _ _ (xa_subI rfl rfl (fun _ _ _ _ => by omega) (xa_subR rfl xa_sub0)) ?_
          rw [show w = 14 by omega] at hk e68
          exact loop2 17 0 (xa_up (xa_up M1 60 68 ((124 * a + 71) + 1)) 60 6 (M1 104 (124 * a + 71))) (by omega) (by omega) (by rw [xa_up_ne (by omega), xa_up_hit (by omega)]; omega) ⟨fun q j hn h4 h5 => by
            rw [xa_up_ne (by omega), xa_up_ne (by omega)]
            exact hk.1 q j hn h4 h5,
          by
            rw [xa_up_ne (by omega), xa_up_ne (by omega)]
            exact hk.2.1,
          fun y y0 y1 => by
            have f := hk.2.2.1 y y0 y1
            exact ⟨by
              rw [xa_up_ne (by omega), xa_up_ne (by omega)]
              exact f.1, by
              rw [xa_up_ne (by omega), xa_up_ne (by omega)]
              exact f.2.1, by
              rw [xa_up_ne (by omega), xa_up_ne (by omega)]
              exact f.2.2⟩,
          fun _ => by
            rw [xa_up_hit (by omega)]
            exact f6,
          fun y y0 y1 => by omega⟩ (by omega)
        · intro (c1 : w < 14)
          show xa_C xm_I A h0 _ 296 [(2, 60, 0, 0, 0)] M1 _
          refine ct_nextCell (n := 124 * a + 1 + 5 * w) (by first | exact e68 | (simp [xa_up]; omega)) (by omega) (by omega) ?_
          refine And.intro (show 0 ≤ w ∧ w < 14 by omega) ?_
          refine And.intro (show 0 ≤ (M1 104 (124 * a + 1 + 5 * w)) ∧ (M1 104 (124 * a + 1 + 5 * w)) ≤ 400 by omega) ?_
          show xa_C xm_I A h0 _ 296 [(2, 60, 0, 0, 0)] (xa_up (xa_up M1 60 68 ((124 * a + 1 + 5 * w) + 1)) 61 w (M1 104 (124 * a + 1 + 5 * w))) _
          refine ct_nextCell (n := 124 * a + 2 + 5 * w) (by first | exact e68 | (simp [xa_up]; omega)) (by omega) (by omega) ?_
          refine And.intro (show 0 ≤ w ∧ w < 14 by omega) ?_
          refine And.intro (show 0 ≤ (M1 104 (124 * a + 2 + 5 * w)) ∧ (M1 104 (124 * a + 2 + 5 * w)) ≤ 400 by omega) ?_
          show xa_C xm_I A h0 _ 296 [(2, 60, 0, 0, 0)] (xa_up (xa_up (xa_up (xa_up M1 60 68 ((124 * a + 1 + 5 * w) + 1)) 61 w (M1 104 (124 * a + 1 + 5 * w))) 60 68 ((124 * a + 2 + 5 * w) + 1)) 62 w (M1 104 (124 * a + 2 + 5 * w))) _
          refine ct_nextCell (n := 124 * a + 3 + 5 * w) (by first | exact e68 | (simp [xa_up]; omega)) (by omega) (by omega) ?_
          refine And.intro (show 0 ≤ w ∧ w < 14 by omega) ?_
          refine And.intro (show 0 ≤ (M1 104 (124 * a + 3 + 5 * w)) ∧ (M1 104 (124 * a + 3 + 5 * w)) ≤ 400 by omega) ?_
          show xa_C xm_I A h0 _ 296 [(2, 60, 0, 0, 0)] (xa_up (xa_up (xa_up (xa_up (xa_up (xa_up M1 60 68 ((124 * a + 1 + 5 * w) + 1)) 61 w (M1 104 (124 * a + 1 + 5 * w))) 60 68 ((124 * a + 2 + 5 * w) + 1)) 62 w (M1 104 (124 * a + 2 + 5 * w))) 60 68 ((124 * a + 3 + 5 * w) + 1)) 63 w (M1 104 (124 * a + 3 + 5 * w))) _
          refine ct_nextCell (n := 124 * a + 4 + 5 * w) (by first | exact e68 | (simp [xa_up]; omega)) (by omega) (by omega) ?_
          refine And.intro (show 0 ≤ w ∧ w < 14 by omega) ?_
          refine And.intro (show 0 ≤ (M1 104 (124 * a + 4 + 5 * w)) ∧ (M1 104 (124 * a + 4 + 5 * w)) ≤ 9 by omega) ?_
          show xa_C xm_I A h0 _ 296 [(2, 60, 0, 0, 0)] (xa_up (xa_up (xa_up (xa_up (xa_up (xa_up (xa_up (xa_up M1 60 68 ((124 * a + 1 + 5 * w) + 1)) 61 w (M1 104 (124 * a + 1 + 5 * w))) 60 68 ((124 * a + 2 + 5 * w) + 1)) 62 w (M1 104 (124 * a + 2 + 5 * w))) 60 68 ((124 * a + 3 + 5 * w) + 1)) 63 w (M1 104 (124 * a + 3 + 5 * w))) 60 68 ((124 * a + 4 + 5 * w) + 1)) 64 w (M1 104 (124 * a + 4 + 5 * w))) _
          refine ct_nextCell (n := 124 * a + 5 + 5 * w) (by first | exact e68 | (simp [xa_up]; omega)) (by omega) (by omega) ?_
          refine And.intro (show 0 ≤ w ∧ w < 14 by omega) ?_
          refine And.intro (show 0 ≤ (M1 104 (124 * a + 5 + 5 * w)) ∧ (M1 104 (124 * a + 5 + 5 * w)) ≤ 9 by omega) ?_
          show Q 43 [(2, (0, 0, 1, 15, w + 1)), (0, (2, 60, 0, 0, 0))] [] (xa_up (xa_up (xa_up (xa_up (xa_up (xa_up (xa_up (xa_up (xa_up (xa_up M1 60 68 ((124 * a + 1 + 5 * w) + 1)) 61 w (M1 104 (124 * a + 1 + 5 * w))) 60 68 ((124 * a + 2 + 5 * w) + 1)) 62 w (M1 104 (124 * a + 2 + 5 * w))) 60 68 ((124 * a + 3 + 5 * w) + 1)) 63 w (M1 104 (124 * a + 3 + 5 * w))) 60 68 ((124 * a + 4 + 5 * w) + 1)) 64 w (M1 104 (124 * a + 4 + 5 * w))) 60 68 ((124 * a + 5 + 5 * w) + 1)) 65 w (M1 104 (124 * a + 5 + 5 * w)))
          refine hgo.2.1 43 _ [(2, (0, 0, 0, 14, w + 1)), (0, (2, 60, 0, 0, 0))] _ _ (xa_subI rfl rfl (fun _ _ _ _ => by omega) (xa_subR rfl xa_sub0)) ?_
          exact ih (w + 1) (xa_up (xa_up (xa_up (xa_up (xa_up (xa_up (xa_up (xa_up (xa_up (xa_up M1 60 68 ((124 * a + 1 + 5 * w) + 1)) 61 w (M1 104 (124 * a + 1 + 5 * w))) 60 68 ((124 * a + 2 + 5 * w) + 1)) 62 w (M1 104 (124 * a + 2 + 5 * w))) 60 68 ((124 * a + 3 + 5 * w) + 1)) 63 w (M1 104 (124 * a + 3 + 5 * w))) 60 68 ((124 * a + 4 + 5 * w) + 1)) 64 w (M1 104 (124 * a + 4 + 5 * w))) 60 68 ((124 * a + 5 + 5 * w) + 1)) 65 w (M1 104 (124 * a + 5 + 5 * w))) (by omega) (by omega) (by rw [xa_up_ne (by omega), xa_up_hit (by omega)]; omega) ⟨fun q j hn h4 h5 => by
            rw [xa_up_ne (by omega), xa_up_ne (by omega), xa_up_ne (by omega), xa_up_ne (by omega), xa_up_ne (by omega), xa_up_ne (by omega), xa_up_ne (by omega), xa_up_ne (by omega), xa_up_ne (by omega), xa_up_ne (by omega)]
            exact hk.1 q j hn h4 h5,
          by
            rw [xa_up_ne (by omega), xa_up_ne (by omega), xa_up_ne (by omega), xa_up_ne (by omega), xa_up_ne (by omega), xa_up_ne (by omega), xa_up_ne (by omega), xa_up_ne (by omega), xa_up_ne (by omega), xa_up_ne (by omega)]
            exact hk.2.1,
          fun y y0 y1 => by
            by_cases e : y = w
            · rw [e]
              exact ⟨by
                rw [xa_up_ne (by omega), xa_up_ne (by omega), xa_up_ne (by omega), xa_up_ne (by omega), xa_up_ne (by omega), xa_up_ne (by omega), xa_up_ne (by omega), xa_up_ne (by omega), xa_up_hit (by omega)]
                exact hk.1 104 _ (by omega) (by omega) (by omega), by
                rw [xa_up_ne (by omega), xa_up_ne (by omega), xa_up_ne (by omega), xa_up_ne (by omega), xa_up_ne (by omega), xa_up_ne (by omega), xa_up_hit (by omega)]
                exact hk.1 104 _ (by omega) (by omega) (by omega), by
                rw [xa_up_ne (by omega), xa_up_ne (by omega), xa_up_ne (by omega), xa_up_ne (by omega), xa_up_hit (by omega)]
                exact hk.1 104 _ (by omega) (by omega) (by omega)⟩
            · have f := hk.2.2.1 y y0 (by omega)
              exact ⟨by
                rw [xa_up_ne (by omega), xa_up_ne (by omega), xa_up_ne (by omega), xa_up_ne (by omega), xa_up_ne (by omega), xa_up_ne (by omega), xa_up_ne (by omega), xa_up_ne (by omega), xa_up_ne (by omega), xa_up_ne (by omega)]
                exact f.1, by
                rw [xa_up_ne (by omega), xa_up_ne (by omega), xa_up_ne (by omega), xa_up_ne (by omega), xa_up_ne (by omega), xa_up_ne (by omega), xa_up_ne (by omega), xa_up_ne (by omega), xa_up_ne (by omega), xa_up_ne (by omega)]
                exact f.2.1, by
                rw [xa_up_ne (by omega), xa_up_ne (by omega), xa_up_ne (by omega), xa_up_ne (by omega), xa_up_ne (by omega), xa_up_ne (by omega), xa_up_ne (by omega), xa_up_ne (by omega), xa_up_ne (by omega), xa_up_ne (by omega)]
                exact f.2.2⟩,
          fun h => by
            rw [xa_up_ne (by omega), xa_up_ne (by omega), xa_up_ne (by omega), xa_up_ne (by omega), xa_up_ne (by omega), xa_up_ne (by omega), xa_up_ne (by omega), xa_up_ne (by omega), xa_up_ne (by omega), xa_up_ne (by omega)]
            exact hk.2.2.2.1 (by omega),
          fun y y0 y1 => by
            have f := hk.2.2.2.2 y y0 y1
            exact ⟨by
              rw [xa_up_ne (by omega), xa_up_ne (by omega), xa_up_ne (by omega), xa_up_ne (by omega), xa_up_ne (by omega), xa_up_ne (by omega), xa_up_ne (by omega), xa_up_ne (by omega), xa_up_ne (by omega), xa_up_ne (by omega)]
              exact f.1, by
              rw [xa_up_ne (by omega), xa_up_ne (by omega), xa_up_ne (by omega), xa_up_ne (by omega), xa_up_ne (by omega), xa_up_ne (by omega), xa_up_ne (by omega), xa_up_ne (by omega), xa_up_ne (by omega), xa_up_ne (by omega)]
              exact f.2⟩⟩ (by omega)
    intro M0 e hk
    exact hgo.2.1 43 _ [(2, (0, 0, 0, 14, 0)), (0, (2, 60, 0, 0, 0))] _ _ (xa_subI rfl rfl (fun _ _ _ _ => by omega) (xa_subR rfl xa_sub0)) (loop1 15 0 M0 (by omega) (by omega) (by omega) hk (by omega))
  refine hgo.1 19 [25] 0 _ _ _ ?_
  show xa_C xm_I A h0 _ 214 [(0, 0, (-2147483648), 2147483647, a), (0, 0, 0, 0, 0), (0, 0, 3, 3, 3)] (xa_up M 60 21 0) _
  refine ct_in ?_ ?_
  · intro (i1 : 0 ≤ a ∧ a ≤ 3)
    refine And.intro (show 0 ≤ a ∧ a < 4 by omega) ?_
    refine And.intro ?_ ?_
    · intro (c2 : ¬ (M 105 a) = 0)
      show Q 25 [(0, (2, 60, 0, 0, 0)), (1, (0, 0, (-2147483648), 2147483647, a))] [] (xa_up M 60 21 0)
      refine hgo.2.1 25 _ [(0, (2, 60, 0, 0, 0)), (1, (0, 0, 0, 3, a))] _ _ (xa_subR rfl (xa_subI rfl rfl (fun _ _ _ _ => by omega) xa_sub0)) ?_
      have g1 := hI.2.2.2.2 a (by omega) (by omega) (by omega)
      have g2 := g1.1
      have e68 : xa_up M 60 68 (124 * a) 60 68 = 124 * a := xa_up_eq
      refine hgo.1 16 [43] 25 _ _ _ ?_
      show xa_C xm_I A h0 _ 296 [(2, 60, 0, 0, 0)] (xa_up (xa_up M 60 21 0) 60 68 (124 * a)) _
      refine ct_nextCell (n := 124 * a) (by first | exact e68 | (simp [xa_up]; omega)) (by omega) (by omega) ?_
      refine And.intro (show 0 ≤ (M 104 (124 * a)) ∧ (M 104 (124 * a)) ≤ 14 by omega) ?_
      show Q 43 [(2, (0, 0, 0, 0, 0)), (0, (2, 60, 0, 0, 0)), (1, (0, 0, 0, 3, a))] [] (xa_up (xa_up (xa_up (xa_up M 60 21 0) 60 68 (124 * a)) 60 68 ((124 * a) + 1)) 60 0 (M 104 (124 * a)))
      refine hgo.2.1 43 _ [(2, (0, 0, 0, 14, 0)), (0, (2, 60, 0, 0, 0))] _ _ (xa_subI rfl rfl (fun _ _ _ _ => by omega) (xa_subR rfl xa_sub0)) ?_
      exact key (by omega) (by omega) (hI.2.2.2.2 a (by omega) (by omega) (by omega)) (xa_up (xa_up (xa_up (xa_up M 60 21 0) 60 68 (124 * a)) 60 68 ((124 * a) + 1)) 60 0 (M 104 (124 * a))) (by rw [xa_up_ne (by omega), xa_up_hit (by omega)]) ⟨fun q j hn h4 h5 => by
        rw [xa_up_ne (by omega), xa_up_ne (by omega), xa_up_ne (by omega), xa_up_ne (by omega)],
      by
        rw [xa_up_hit (by omega)],
      fun y y0 y1 => by omega,
      fun h => by omega,
      fun y y0 y1 => by omega⟩
    · intro (c2 : (M 105 a) = 0)
      show post (some (0, 0, 0, 0, 0)) (xa_up M 60 21 0)
      exact k _ _ (xm_Inv_cor (xm_cor_f (by omega) xm_cor_r) hI)
  · intro (i1 : ¬ (0 ≤ a ∧ a ≤ 3))
    show post (some (0, 0, 0, 0, 0)) (xa_up M 60 21 0)
    exact k _ _ (xm_Inv_cor (xm_cor_f (by omega) xm_cor_r) hI)
