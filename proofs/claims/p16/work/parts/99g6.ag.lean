-- keep and again of the reference (made by wip/u/mkag.py)
set_option maxRecDepth 20000
def xm_kpG (M M1 : xa_M) (a w m x : Int) : Prop := M1 105 a = 1 ∧ xm_kpt M M1 a w m x
theorem ms_keepG {A : Nat → Nat} {h0 : g_H} {d : Nat} {M : xa_M} {post : Option xa_V → xa_M → Prop} {l1 u1 : Int} {a : Int} (hI : xm_Inv M) (k : ∀ (o : Option xa_V) (M1 : xa_M), ((0 ≤ a ∧ a ≤ 3) ∧ (∃ lo hi, o = some (0, 0, lo, hi, 1)) ∧ xm_kpG M M1 a 14 16 10) ∨ (¬ (0 ≤ a ∧ a ≤ 3) ∧ (∃ lo hi, o = some (0, 0, lo, hi, 0)) ∧ M1 = xa_up M 60 21 0) → xm_Inv M1 → post o M1) : xa_C xm_I A h0 (d + 2) 293 [(2, 60, 0, 0, 0), (0, 0, l1, u1, a)] M post := by
  refine xa_C_arg [(2, 60, 0, 0, 0), (0, 0, (-2147483648), 2147483647, a)] (xa_svR (xa_svI (fun _ _ _ _ => by omega) xa_sv0)) ?_
  refine xa_meth (Q0 := (3, 2, false, 0, 0, 12)) (by decide +kernel) ⟨rfl, rfl⟩ (full := s_c_293) rfl rfl ?_
  intro hM hv Q hgo
  have key : 0 ≤ a → a ≤ 3 → ∀ (M0 : xa_M), M0 60 68 = 124 * a + 1 → xm_kpG M M0 a 0 (-1) 0 → Q 41 [(2, (0, 0, 0, 14, 0)), (0, (2, 60, 0, 0, 0))] [] M0 := by
    intro a0 a1
    have loop3 : ∀ (n : Nat) (x : Int) (M1 : xa_M), 0 ≤ x → x ≤ 10 → M1 60 68 = 124 * a + 104 + 2 * x → xm_kpG M M1 a 14 16 x → 10 - x < (n : Int) → Q 147 [(2, (0, 0, 0, 10, x)), (0, (2, 60, 0, 0, 0))] [] M1 := by
      intro n
      induction n with
      | zero => intro x M1 h1 h2 e68 hk hms; omega
      | succ n ih =>
        intro x M1 h1 h2 e68 hk hms
        have hs := fun q j (hn : ¬ xm_scr q j) (hq : ¬ q = 104 ∧ ¬ q = 105) => hk.2.1 q j hn hq.1 hq.2
        have s68 := hs 68 x (by omega) (by omega)
        have s69 := hs 69 x (by omega) (by omega)
        have s6 := hs 60 6 (by omega) (by omega)
        refine hgo.1 22 [41, 113, 147] 147 _ _ _ ?_
        refine And.intro ?_ ?_
        · intro (c1 : 10 ≤ x)
          show post (some (0, 0, 1, 1, 1)) M1
          rw [show x = 10 by omega] at hk
          exact k _ _ (Or.inl ⟨⟨a0, a1⟩, ⟨_, _, rfl⟩, hk⟩) (xm_kpt_Inv hM hI hk.2)
        · intro (c1 : x < 10)
          refine And.intro (show 0 ≤ x ∧ x < 10 by omega) ?_
          show xa_C xm_I A h0 _ 294 [(2, 60, 0, 0, 0), (0, 0, (-500), 500, M1 68 x)] M1 _
          refine ct_putCell (n := M1 60 68) (by first | rfl | omega | (simp [xa_up]; done)) (by omega) (by omega) ?_
          refine And.intro (show 0 ≤ x ∧ x < 10 by omega) ?_
          show xa_C xm_I A h0 _ 294 [(2, 60, 0, 0, 0), (0, 0, (-500), 500, M1 69 x)] (xa_up (xa_up M1 104 (M1 60 68) (M1 68 x)) 60 68 ((M1 60 68) + 1)) _
          refine ct_putCell (n := (M1 60 68) + 1) (by first | rfl | omega | (simp [xa_up]; done)) (by omega) (by omega) ?_
          show Q 147 [(2, (0, 0, 1, 11, x + 1)), (0, (2, 60, 0, 0, 0))] [] (xa_up (xa_up (xa_up (xa_up M1 104 (M1 60 68) (M1 68 x)) 60 68 ((M1 60 68) + 1)) 104 ((M1 60 68) + 1) (M1 69 x)) 60 68 (((M1 60 68) + 1) + 1))
          refine hgo.2.1 147 _ [(2, (0, 0, 0, 10, x + 1)), (0, (2, 60, 0, 0, 0))] _ _ (xa_subI rfl rfl (fun _ _ _ _ => by omega) (xa_subR rfl xa_sub0)) ?_
          exact ih (x + 1) (xa_up (xa_up (xa_up (xa_up M1 104 (M1 60 68) (M1 68 x)) 60 68 ((M1 60 68) + 1)) 104 ((M1 60 68) + 1) (M1 69 x)) 60 68 (((M1 60 68) + 1) + 1)) (by omega) (by omega) (by rw [xa_up_hit (by omega)]; omega) ⟨by
            rw [xa_up_ne (by omega), xa_up_ne (by omega), xa_up_ne (by omega), xa_up_ne (by omega)]
            exact hk.1,
          fun q j hn h4 h5 => by
            rw [xa_up_ne (by omega), xa_up_ne (by omega), xa_up_ne (by omega), xa_up_ne (by omega)]
            exact hk.2.1 q j hn h4 h5,
          fun j hj => by
            rw [xa_up_ne (by omega), xa_up_ne (by omega), xa_up_ne (by omega), xa_up_ne (by omega)]
            exact hk.2.2.1 j hj,
          fun j hj => by
            rw [xa_up_ne (by omega), xa_up_ne (by omega), xa_up_ne (by omega), xa_up_ne (by omega)]
            exact hk.2.2.2.1 j hj,
          by
            rw [xa_up_ne (by omega), xa_up_ne (by omega), xa_up_ne (by omega), xa_up_ne (by omega)]
            exact hk.2.2.2.2.1,
          fun y y0 y1 => by
            have f := hk.2.2.2.2.2.1 y y0 y1
            exact ⟨by
              rw [xa_up_ne (by omega), xa_up_ne (by omega), xa_up_ne (by omega), xa_up_ne (by omega)]
              exact f.1, by
              rw [xa_up_ne (by omega), xa_up_ne (by omega), xa_up_ne (by omega), xa_up_ne (by omega)]
              exact f.2.1, by
              rw [xa_up_ne (by omega), xa_up_ne (by omega), xa_up_ne (by omega), xa_up_ne (by omega)]
              exact f.2.2.1, by
              rw [xa_up_ne (by omega), xa_up_ne (by omega), xa_up_ne (by omega), xa_up_ne (by omega)]
              exact f.2.2.2.1, by
              rw [xa_up_ne (by omega), xa_up_ne (by omega), xa_up_ne (by omega), xa_up_ne (by omega)]
              exact f.2.2.2.2⟩,
          fun h => by
            rw [xa_up_ne (by omega), xa_up_ne (by omega), xa_up_ne (by omega), xa_up_ne (by omega)]
            exact hk.2.2.2.2.2.2.1 (by omega),
          fun y y0 y1 => by
            have f := hk.2.2.2.2.2.2.2.1 y y0 y1
            exact ⟨by
              rw [xa_up_ne (by omega), xa_up_ne (by omega), xa_up_ne (by omega), xa_up_ne (by omega)]
              exact f.1, by
              rw [xa_up_ne (by omega), xa_up_ne (by omega), xa_up_ne (by omega), xa_up_ne (by omega)]
              exact f.2⟩,
          fun y y0 y1 => by
            by_cases e : y = x
            · rw [e]
              exact ⟨by
                rw [xa_up_ne (by omega), xa_up_ne (by omega), xa_up_ne (by omega), xa_up_hit (by omega)]
                omega, by
                rw [xa_up_ne (by omega), xa_up_hit (by omega)]
                omega⟩
            · have f := hk.2.2.2.2.2.2.2.2 y y0 (by omega)
              exact ⟨by
                rw [xa_up_ne (by omega), xa_up_ne (by omega), xa_up_ne (by omega), xa_up_ne (by omega)]
                exact f.1, by
                rw [xa_up_ne (by omega), xa_up_ne (by omega), xa_up_ne (by omega), xa_up_ne (by omega)]
                exact f.2⟩⟩ (by omega)
    have loop2 : ∀ (n : Nat) (m : Int) (M1 : xa_M), 0 ≤ m → m ≤ 16 → M1 60 68 = 124 * a + 72 + 2 * m → xm_kpG M M1 a 14 m 0 → 16 - m < (n : Int) → Q 113 [(2, (0, 0, 0, 16, m)), (0, (2, 60, 0, 0, 0))] [] M1 := by
      intro n
      induction n with
      | zero => intro m M1 h1 h2 e68 hk hms; omega
      | succ n ih =>
        intro m M1 h1 h2 e68 hk hms
        have hs := fun q j (hn : ¬ xm_scr q j) (hq : ¬ q = 104 ∧ ¬ q = 105) => hk.2.1 q j hn hq.1 hq.2
        have s66 := hs 66 m (by omega) (by omega)
        have s67 := hs 67 m (by omega) (by omega)
        have s6 := hs 60 6 (by omega) (by omega)
        refine hgo.1 22 [41, 113, 147] 113 _ _ _ ?_
        refine And.intro ?_ ?_
        · intro (c1 : 16 ≤ m)
          show Q 147 [(2, (0, 0, 0, 0, 0)), (0, (2, 60, 0, 0, 0))] [] M1
          refine hgo.2.1 147 _ [(2, (0, 0, 0, 10, 0)), (0, (2, 60, 0, 0, 0))] _ _ (xa_subI rfl rfl (fun _ _ _ _ => by omega) (xa_subR rfl xa_sub0)) ?_
          rw [show m = 16 by omega] at hk e68
          exact loop3 11 0 M1 (by omega) (by omega) (by omega) hk (by omega)
        · intro (c1 : m < 16)
          refine And.intro (show 0 ≤ m ∧ m < 16 by omega) ?_
          show xa_C xm_I A h0 _ 294 [(2, 60, 0, 0, 0), (0, 0, 0, 13, M1 66 m)] M1 _
          refine ct_putCell (n := M1 60 68) (by first | rfl | omega | (simp [xa_up]; done)) (by omega) (by omega) ?_
          refine And.intro (show 0 ≤ m ∧ m < 16 by omega) ?_
          show xa_C xm_I A h0 _ 294 [(2, 60, 0, 0, 0), (0, 0, 0, 13, M1 67 m)] (xa_up (xa_up M1 104 (M1 60 68) (M1 66 m)) 60 68 ((M1 60 68) + 1)) _
          refine ct_putCell (n := (M1 60 68) + 1) (by first | rfl | omega | (simp [xa_up]; done)) (by omega) (by omega) ?_
          show Q 113 [(2, (0, 0, 1, 17, m + 1)), (0, (2, 60, 0, 0, 0))] [] (xa_up (xa_up (xa_up (xa_up M1 104 (M1 60 68) (M1 66 m)) 60 68 ((M1 60 68) + 1)) 104 ((M1 60 68) + 1) (M1 67 m)) 60 68 (((M1 60 68) + 1) + 1))
          refine hgo.2.1 113 _ [(2, (0, 0, 0, 16, m + 1)), (0, (2, 60, 0, 0, 0))] _ _ (xa_subI rfl rfl (fun _ _ _ _ => by omega) (xa_subR rfl xa_sub0)) ?_
          exact ih (m + 1) (xa_up (xa_up (xa_up (xa_up M1 104 (M1 60 68) (M1 66 m)) 60 68 ((M1 60 68) + 1)) 104 ((M1 60 68) + 1) (M1 67 m)) 60 68 (((M1 60 68) + 1) + 1)) (by omega) (by omega) (by rw [xa_up_hit (by omega)]; omega) ⟨by
            rw [xa_up_ne (by omega), xa_up_ne (by omega), xa_up_ne (by omega), xa_up_ne (by omega)]
            exact hk.1,
          fun q j hn h4 h5 => by
            rw [xa_up_ne (by omega), xa_up_ne (by omega), xa_up_ne (by omega), xa_up_ne (by omega)]
            exact hk.2.1 q j hn h4 h5,
          fun j hj => by
            rw [xa_up_ne (by omega), xa_up_ne (by omega), xa_up_ne (by omega), xa_up_ne (by omega)]
            exact hk.2.2.1 j hj,
          fun j hj => by
            rw [xa_up_ne (by omega), xa_up_ne (by omega), xa_up_ne (by omega), xa_up_ne (by omega)]
            exact hk.2.2.2.1 j hj,
          by
            rw [xa_up_ne (by omega), xa_up_ne (by omega), xa_up_ne (by omega), xa_up_ne (by omega)]
            exact hk.2.2.2.2.1,
          fun y y0 y1 => by
            have f := hk.2.2.2.2.2.1 y y0 y1
            exact ⟨by
              rw [xa_up_ne (by omega), xa_up_ne (by omega), xa_up_ne (by omega), xa_up_ne (by omega)]
              exact f.1, by
              rw [xa_up_ne (by omega), xa_up_ne (by omega), xa_up_ne (by omega), xa_up_ne (by omega)]
              exact f.2.1, by
              rw [xa_up_ne (by omega), xa_up_ne (by omega), xa_up_ne (by omega), xa_up_ne (by omega)]
              exact f.2.2.1, by
              rw [xa_up_ne (by omega), xa_up_ne (by omega), xa_up_ne (by omega), xa_up_ne (by omega)]
              exact f.2.2.2.1, by
              rw [xa_up_ne (by omega), xa_up_ne (by omega), xa_up_ne (by omega), xa_up_ne (by omega)]
              exact f.2.2.2.2⟩,
          fun h => by
            rw [xa_up_ne (by omega), xa_up_ne (by omega), xa_up_ne (by omega), xa_up_ne (by omega)]
            exact hk.2.2.2.2.2.2.1 (by omega),
          fun y y0 y1 => by
            by_cases e : y = m
            · rw [e]
              exact ⟨by
                rw [xa_up_ne (by omega), xa_up_ne (by omega), xa_up_ne (by omega), xa_up_hit (by omega)]
                omega, by
                rw [xa_up_ne (by omega), xa_up_hit (by omega)]
                omega⟩
            · have f := hk.2.2.2.2.2.2.2.1 y y0 (by omega)
              exact ⟨by
                rw [xa_up_ne (by omega), xa_up_ne (by omega), xa_up_ne (by omega), xa_up_ne (by omega)]
                exact f.1, by
                rw [xa_up_ne (by omega), xa_up_ne (by omega), xa_up_ne (by omega), xa_up_ne (by omega)]
                exact f.2⟩,
          fun y y0 y1 => by
            have f := hk.2.2.2.2.2.2.2.2 y y0 y1
            exact ⟨by
              rw [xa_up_ne (by omega), xa_up_ne (by omega), xa_up_ne (by omega), xa_up_ne (by omega)]
              exact f.1, by
              rw [xa_up_ne (by omega), xa_up_ne (by omega), xa_up_ne (by omega), xa_up_ne (by omega)]
              exact f.2⟩⟩ (by omega)
    have loop1 : ∀ (n : Nat) (w : Int) (M1 : xa_M), 0 ≤ w → w ≤ 14 → M1 60 68 = 124 * a + 1 + 5 * w → xm_kpG M M1 a w (-1) 0 → 14 - w < (n : Int) → Q 41 [(2, (0, 0, 0, 14, w)), (0, (2, 60, 0, 0, 0))] [] M1 := by
      intro n
      induction n with
      | zero => intro w M1 h1 h2 e68 hk hms; omega
      | succ n ih =>
        intro w M1 h1 h2 e68 hk hms
        have hs := fun q j (hn : ¬ xm_scr q j) (hq : ¬ q = 104 ∧ ¬ q = 105) => hk.2.1 q j hn hq.1 hq.2
        have s61 := hs 61 w (by omega) (by omega)
        have s62 := hs 62 w (by omega) (by omega)
        have s63 := hs 63 w (by omega) (by omega)
        have s64 := hs 64 w (by omega) (by omega)
        have s65 := hs 65 w (by omega) (by omega)
        have s6 := hs 60 6 (by omega) (by omega)
        refine hgo.1 40 [41, 113, 147] 41 _ _ _ ?_
        refine And.intro ?_ ?_
        · intro (c1 : 14 ≤ w)
          show xa_C xm_I A h0 _ 294 [(2, 60, 0, 0, 0), (0, 0, 0, 16, M1 60 6)] M1 _
          refine ct_putCell (n := M1 60 68) (by first | rfl | omega | (simp [xa_up]; done)) (by omega) (by omega) ?_
          show Q 113 [(2, (0, 0, 0, 0, 0)), (0, (2, 60, 0, 0, 0))] [] (xa_up (xa_up M1 104 (M1 60 68) (M1 60 6)) 60 68 ((M1 60 68) + 1))
          refine hgo.2.1 113 _ [(2, (0, 0, 0, 16, 0)), (0, (2, 60, 0, 0, 0))] _ _ (xa_subI rfl rfl (fun _ _ _ _ => by omega) (xa_subR rfl xa_sub0)) ?_
          rw [show w = 14 by omega] at hk e68
          exact loop2 17 0 (xa_up (xa_up M1 104 (M1 60 68) (M1 60 6)) 60 68 ((M1 60 68) + 1)) (by omega) (by omega) (by rw [xa_up_hit (by omega)]; omega) ⟨by
            rw [xa_up_ne (by omega), xa_up_ne (by omega)]
            exact hk.1,
          fun q j hn h4 h5 => by
            rw [xa_up_ne (by omega), xa_up_ne (by omega)]
            exact hk.2.1 q j hn h4 h5,
          fun j hj => by
            rw [xa_up_ne (by omega), xa_up_ne (by omega)]
            exact hk.2.2.1 j hj,
          fun j hj => by
            rw [xa_up_ne (by omega), xa_up_ne (by omega)]
            exact hk.2.2.2.1 j hj,
          by
            rw [xa_up_ne (by omega), xa_up_ne (by omega)]
            exact hk.2.2.2.2.1,
          fun y y0 y1 => by
            have f := hk.2.2.2.2.2.1 y y0 y1
            exact ⟨by
              rw [xa_up_ne (by omega), xa_up_ne (by omega)]
              exact f.1, by
              rw [xa_up_ne (by omega), xa_up_ne (by omega)]
              exact f.2.1, by
              rw [xa_up_ne (by omega), xa_up_ne (by omega)]
              exact f.2.2.1, by
              rw [xa_up_ne (by omega), xa_up_ne (by omega)]
              exact f.2.2.2.1, by
              rw [xa_up_ne (by omega), xa_up_ne (by omega)]
              exact f.2.2.2.2⟩,
          fun _ => by
            rw [xa_up_ne (by omega), xa_up_hit (by omega)]
            exact s6,
          fun y y0 y1 => by omega,
          fun y y0 y1 => by
            have f := hk.2.2.2.2.2.2.2.2 y y0 y1
            exact ⟨by
              rw [xa_up_ne (by omega), xa_up_ne (by omega)]
              exact f.1, by
              rw [xa_up_ne (by omega), xa_up_ne (by omega)]
              exact f.2⟩⟩ (by omega)
        · intro (c1 : w < 14)
          refine And.intro (show 0 ≤ w ∧ w < 14 by omega) ?_
          show xa_C xm_I A h0 _ 294 [(2, 60, 0, 0, 0), (0, 0, 0, 400, M1 61 w)] M1 _
          refine ct_putCell (n := M1 60 68) (by first | rfl | omega | (simp [xa_up]; done)) (by omega) (by omega) ?_
          refine And.intro (show 0 ≤ w ∧ w < 14 by omega) ?_
          show xa_C xm_I A h0 _ 294 [(2, 60, 0, 0, 0), (0, 0, 0, 400, M1 62 w)] (xa_up (xa_up M1 104 (M1 60 68) (M1 61 w)) 60 68 ((M1 60 68) + 1)) _
          refine ct_putCell (n := (M1 60 68) + 1) (by first | rfl | omega | (simp [xa_up]; done)) (by omega) (by omega) ?_
          refine And.intro (show 0 ≤ w ∧ w < 14 by omega) ?_
          show xa_C xm_I A h0 _ 294 [(2, 60, 0, 0, 0), (0, 0, 0, 400, M1 63 w)] (xa_up (xa_up (xa_up (xa_up M1 104 (M1 60 68) (M1 61 w)) 60 68 ((M1 60 68) + 1)) 104 ((M1 60 68) + 1) (M1 62 w)) 60 68 (((M1 60 68) + 1) + 1)) _
          refine ct_putCell (n := ((M1 60 68) + 1) + 1) (by first | rfl | omega | (simp [xa_up]; done)) (by omega) (by omega) ?_
          refine And.intro (show 0 ≤ w ∧ w < 14 by omega) ?_
          show xa_C xm_I A h0 _ 294 [(2, 60, 0, 0, 0), (0, 0, 0, 9, M1 64 w)] (xa_up (xa_up (xa_up (xa_up (xa_up (xa_up M1 104 (M1 60 68) (M1 61 w)) 60 68 ((M1 60 68) + 1)) 104 ((M1 60 68) + 1) (M1 62 w)) 60 68 (((M1 60 68) + 1) + 1)) 104 (((M1 60 68) + 1) + 1) (M1 63 w)) 60 68 ((((M1 60 68) + 1) + 1) + 1)) _
          refine ct_putCell (n := (((M1 60 68) + 1) + 1) + 1) (by first | rfl | omega | (simp [xa_up]; done)) (by omega) (by omega) ?_
          refine And.intro (show 0 ≤ w ∧ w < 14 by omega) ?_
          show xa_C xm_I A h0 _ 294 [(2, 60, 0, 0, 0), (0, 0, 0, 9, M1 65 w)] (xa_up (xa_up (xa_up (xa_up (xa_up (xa_up (xa_up (xa_up M1 104 (M1 60 68) (M1 61 w)) 60 68 ((M1 60 68) + 1)) 104 ((M1 60 68) + 1) (M1 62 w)) 60 68 (((M1 60 68) + 1) + 1)) 104 (((M1 60 68) + 1) + 1) (M1 63 w)) 60 68 ((((M1 60 68) + 1) + 1) + 1)) 104 ((((M1 60 68) + 1) + 1) + 1) (M1 64 w)) 60 68 (((((M1 60 68) + 1) + 1) + 1) + 1)) _
          refine ct_putCell (n := ((((M1 60 68) + 1) + 1) + 1) + 1) (by first | rfl | omega | (simp [xa_up]; done)) (by omega) (by omega) ?_
          show Q 41 [(2, (0, 0, 1, 15, w + 1)), (0, (2, 60, 0, 0, 0))] [] (xa_up (xa_up (xa_up (xa_up (xa_up (xa_up (xa_up (xa_up (xa_up (xa_up M1 104 (M1 60 68) (M1 61 w)) 60 68 ((M1 60 68) + 1)) 104 ((M1 60 68) + 1) (M1 62 w)) 60 68 (((M1 60 68) + 1) + 1)) 104 (((M1 60 68) + 1) + 1) (M1 63 w)) 60 68 ((((M1 60 68) + 1) + 1) + 1)) 104 ((((M1 60 68) + 1) + 1) + 1) (M1 64 w)) 60 68 (((((M1 60 68) + 1) + 1) + 1) + 1)) 104 (((((M1 60 68) + 1) + 1) + 1) + 1) (M1 65 w)) 60 68 ((((((M1 60 68) + 1) + 1) + 1) + 1) + 1))
          refine hgo.2.1 41 _ [(2, (0, 0, 0, 14, w + 1)), (0, (2, 60, 0, 0, 0))] _ _ (xa_subI rfl rfl (fun _ _ _ _ => by omega) (xa_subR rfl xa_sub0)) ?_
          exact ih (w + 1) (xa_up (xa_up (xa_up (xa_up (xa_up (xa_up (xa_up (xa_up (xa_up (xa_up M1 104 (M1 60 68) (M1 61 w)) 60 68 ((M1 60 68) + 1)) 104 ((M1 60 68) + 1) (M1 62 w)) 60 68 (((M1 60 68) + 1) + 1)) 104 (((M1 60 68) + 1) + 1) (M1 63 w)) 60 68 ((((M1 60 68) + 1) + 1) + 1)) 104 ((((M1 60 68) + 1) + 1) + 1) (M1 64 w)) 60 68 (((((M1 60 68) + 1) + 1) + 1) + 1)) 104 (((((M1 60 68) + 1) + 1) + 1) + 1) (M1 65 w)) 60 68 ((((((M1 60 68) + 1) + 1) + 1) + 1) + 1)) (by omega) (by omega) (by rw [xa_up_hit (by omega)]; omega) ⟨by
            rw [xa_up_ne (by omega), xa_up_ne (by omega), xa_up_ne (by omega), xa_up_ne (by omega), xa_up_ne (by omega), xa_up_ne (by omega), xa_up_ne (by omega), xa_up_ne (by omega), xa_up_ne (by omega), xa_up_ne (by omega)]
            exact hk.1,
          fun q j hn h4 h5 => by
            rw [xa_up_ne (by omega), xa_up_ne (by omega), xa_up_ne (by omega), xa_up_ne (by omega), xa_up_ne (by omega), xa_up_ne (by omega), xa_up_ne (by omega), xa_up_ne (by omega), xa_up_ne (by omega), xa_up_ne (by omega)]
            exact hk.2.1 q j hn h4 h5,
          fun j hj => by
            rw [xa_up_ne (by omega), xa_up_ne (by omega), xa_up_ne (by omega), xa_up_ne (by omega), xa_up_ne (by omega), xa_up_ne (by omega), xa_up_ne (by omega), xa_up_ne (by omega), xa_up_ne (by omega), xa_up_ne (by omega)]
            exact hk.2.2.1 j hj,
          fun j hj => by
            rw [xa_up_ne (by omega), xa_up_ne (by omega), xa_up_ne (by omega), xa_up_ne (by omega), xa_up_ne (by omega), xa_up_ne (by omega), xa_up_ne (by omega), xa_up_ne (by omega), xa_up_ne (by omega), xa_up_ne (by omega)]
            exact hk.2.2.2.1 j hj,
          by
            rw [xa_up_ne (by omega), xa_up_ne (by omega), xa_up_ne (by omega), xa_up_ne (by omega), xa_up_ne (by omega), xa_up_ne (by omega), xa_up_ne (by omega), xa_up_ne (by omega), xa_up_ne (by omega), xa_up_ne (by omega)]
            exact hk.2.2.2.2.1,
          fun y y0 y1 => by
            by_cases e : y = w
            · rw [e]
              exact ⟨by
                rw [xa_up_ne (by omega), xa_up_ne (by omega), xa_up_ne (by omega), xa_up_ne (by omega), xa_up_ne (by omega), xa_up_ne (by omega), xa_up_ne (by omega), xa_up_ne (by omega), xa_up_ne (by omega), xa_up_hit (by omega)]
                omega, by
                rw [xa_up_ne (by omega), xa_up_ne (by omega), xa_up_ne (by omega), xa_up_ne (by omega), xa_up_ne (by omega), xa_up_ne (by omega), xa_up_ne (by omega), xa_up_hit (by omega)]
                omega, by
                rw [xa_up_ne (by omega), xa_up_ne (by omega), xa_up_ne (by omega), xa_up_ne (by omega), xa_up_ne (by omega), xa_up_hit (by omega)]
                omega, by
                rw [xa_up_ne (by omega), xa_up_ne (by omega), xa_up_ne (by omega), xa_up_hit (by omega)]
                omega, by
                rw [xa_up_ne (by omega), xa_up_hit (by omega)]
                omega⟩
            · have f := hk.2.2.2.2.2.1 y y0 (by omega)
              exact ⟨by
                rw [xa_up_ne (by omega), xa_up_ne (by omega), xa_up_ne (by omega), xa_up_ne (by omega), xa_up_ne (by omega), xa_up_ne (by omega), xa_up_ne (by omega), xa_up_ne (by omega), xa_up_ne (by omega), xa_up_ne (by omega)]
                exact f.1, by
                rw [xa_up_ne (by omega), xa_up_ne (by omega), xa_up_ne (by omega), xa_up_ne (by omega), xa_up_ne (by omega), xa_up_ne (by omega), xa_up_ne (by omega), xa_up_ne (by omega), xa_up_ne (by omega), xa_up_ne (by omega)]
                exact f.2.1, by
                rw [xa_up_ne (by omega), xa_up_ne (by omega), xa_up_ne (by omega), xa_up_ne (by omega), xa_up_ne (by omega), xa_up_ne (by omega), xa_up_ne (by omega), xa_up_ne (by omega), xa_up_ne (by omega), xa_up_ne (by omega)]
                exact f.2.2.1, by
                rw [xa_up_ne (by omega), xa_up_ne (by omega), xa_up_ne (by omega), xa_up_ne (by omega), xa_up_ne (by omega), xa_up_ne (by omega), xa_up_ne (by omega), xa_up_ne (by omega), xa_up_ne (by omega), xa_up_ne (by omega)]
                exact f.2.2.2.1, by
                rw [xa_up_ne (by omega), xa_up_ne (by omega), xa_up_ne (by omega), xa_up_ne (by omega), xa_up_ne (by omega), xa_up_ne (by omega), xa_up_ne (by omega), xa_up_ne (by omega), xa_up_ne (by omega), xa_up_ne (by omega)]
                exact f.2.2.2.2⟩,
          fun h => by
            rw [xa_up_ne (by omega), xa_up_ne (by omega), xa_up_ne (by omega), xa_up_ne (by omega), xa_up_ne (by omega), xa_up_ne (by omega), xa_up_ne (by omega), xa_up_ne (by omega), xa_up_ne (by omega), xa_up_ne (by omega)]
            exact hk.2.2.2.2.2.2.1 (by omega),
          fun y y0 y1 => by
            have f := hk.2.2.2.2.2.2.2.1 y y0 y1
            exact ⟨by
              rw [xa_up_ne (by omega), xa_up_ne (by omega), xa_up_ne (by omega), xa_up_ne (by omega), xa_up_ne (by omega), xa_up_ne (by omega), xa_up_ne (by omega), xa_up_ne (by omega), xa_up_ne (by omega), xa_up_ne (by omega)]
              exact f.1, by
              rw [xa_up_ne (by omega), xa_up_ne (by omega), xa_up_ne (by omega), xa_up_ne (by omega), xa_up_ne (by omega), xa_up_ne (by omega), xa_up_ne (by omega), xa_up_ne (by omega), xa_up_ne (by omega), xa_up_ne (by omega)]
              exact f.2⟩,
          fun y y0 y1 => by
            have f := hk.2.2.2.2.2.2.2.2 y y0 y1
            exact ⟨by
              rw [xa_up_ne (by omega), xa_up_ne (by omega), xa_up_ne (by omega), xa_up_ne (by omega), xa_up_ne (by omega), xa_up_ne (by omega), xa_up_ne (by omega), xa_up_ne (by omega), xa_up_ne (by omega), xa_up_ne (by omega)]
              exact f.1, by
              rw [xa_up_ne (by omega), xa_up_ne (by omega), xa_up_ne (by omega), xa_up_ne (by omega), xa_up_ne (by omega), xa_up_ne (by omega), xa_up_ne (by omega), xa_up_ne (by omega), xa_up_ne (by omega), xa_up_ne (by omega)]
              exact f.2⟩⟩ (by omega)
    intro M0 e hk
    exact hgo.2.1 41 _ [(2, (0, 0, 0, 14, 0)), (0, (2, 60, 0, 0, 0))] _ _ (xa_subI rfl rfl (fun _ _ _ _ => by omega) (xa_subR rfl xa_sub0)) (loop1 15 0 M0 (by omega) (by omega) (by omega) hk (by omega))
  refine hgo.1 14 [16] 0 _ _ _ ?_
  show xa_C xm_I A h0 _ 214 [(0, 0, (-2147483648), 2147483647, a), (0, 0, 0, 0, 0), (0, 0, 3, 3, 3)] (xa_up M 60 21 0) _
  refine ct_in ?_ ?_
  · intro (i1 : 0 ≤ a ∧ a ≤ 3)
    show Q 16 [(0, (2, 60, 0, 0, 0)), (1, (0, 0, (-2147483648), 2147483647, a))] [] (xa_up M 60 21 0)
    refine hgo.2.1 16 _ [(0, (2, 60, 0, 0, 0)), (1, (0, 0, 0, 3, a))] _ _ (xa_subR rfl (xa_subI rfl rfl (fun _ _ _ _ => by omega) xa_sub0)) ?_
    refine hgo.1 21 [41] 16 _ _ _ ?_
    show xa_C xm_I A h0 _ 294 [(2, 60, 0, 0, 0), (0, 0, 0, 14, M 60 0)] (xa_up (xa_up (xa_up M 60 21 0) 105 a 1) 60 68 (124 * a)) _
    refine ct_putCell (n := 124 * a) (by first | rfl | omega | (simp [xa_up]; done)) (by omega) (by omega) ?_
    show Q 41 [(2, (0, 0, 0, 0, 0)), (0, (2, 60, 0, 0, 0)), (1, (0, 0, 0, 3, a))] [] (xa_up (xa_up (xa_up (xa_up (xa_up M 60 21 0) 105 a 1) 60 68 (124 * a)) 104 (124 * a) (M 60 0)) 60 68 ((124 * a) + 1))
    refine hgo.2.1 41 _ [(2, (0, 0, 0, 14, 0)), (0, (2, 60, 0, 0, 0))] _ _ (xa_subI rfl rfl (fun _ _ _ _ => by omega) (xa_subR rfl xa_sub0)) ?_
    exact key (by omega) (by omega) (xa_up (xa_up (xa_up (xa_up (xa_up M 60 21 0) 105 a 1) 60 68 (124 * a)) 104 (124 * a) (M 60 0)) 60 68 ((124 * a) + 1)) (by rw [xa_up_hit (by omega)]) ⟨by
      rw [xa_up_ne (by omega), xa_up_ne (by omega), xa_up_ne (by omega), xa_up_hit (by omega)],
    fun q j hn h4 h5 => by
      rw [xa_up_ne (by omega), xa_up_ne (by omega), xa_up_ne (by omega), xa_up_ne (by omega), xa_up_ne (by omega)],
    fun j hj => by
      rw [xa_up_ne (by omega), xa_up_ne (by omega), xa_up_ne (by omega), xa_up_ne (by omega), xa_up_ne (by omega)],
    fun j hj => by
      rw [xa_up_ne (by omega), xa_up_ne (by omega), xa_up_ne (by omega), xa_up_ne (by omega), xa_up_ne (by omega)],
    by
      rw [xa_up_ne (by omega), xa_up_hit (by omega)],
    fun y y0 y1 => by omega,
    fun h => by omega,
    fun y y0 y1 => by omega,
    fun y y0 y1 => by omega⟩
  · intro (i1 : ¬ (0 ≤ a ∧ a ≤ 3))
    show post (some (0, 0, 0, 0, 0)) (xa_up M 60 21 0)
    exact k _ _ (Or.inr ⟨i1, ⟨_, _, rfl⟩, rfl⟩) (xm_Inv_cor (xm_cor_f (by omega) xm_cor_r) hI)
def xm_agG (M M1 : xa_M) (a w m : Int) : Prop := (∀ y, 0 ≤ y → y < w → M1 64 y = M 104 (124 * a + 4 + 5 * y) ∧ M1 65 y = M 104 (124 * a + 5 + 5 * y)) ∧ xm_agn M M1 a w m
theorem ms_againG {A : Nat → Nat} {h0 : g_H} {d : Nat} {M : xa_M} {post : Option xa_V → xa_M → Prop} {l1 u1 : Int} {a : Int} (hI : xm_Inv M) (k : ∀ (o : Option xa_V) (M1 : xa_M), ((0 ≤ a ∧ a ≤ 3 ∧ M 105 a = 1) ∧ (∃ lo hi, o = some (0, 0, lo, hi, 1)) ∧ xm_agG M M1 a 14 16) ∨ (¬ (0 ≤ a ∧ a ≤ 3 ∧ M 105 a = 1) ∧ (∃ lo hi, o = some (0, 0, lo, hi, 0)) ∧ M1 = xa_up M 60 21 0) → xm_Inv M1 → post o M1) : xa_C xm_I A h0 (d + 2) 295 [(2, 60, 0, 0, 0), (0, 0, l1, u1, a)] M post := by
  refine xa_C_arg [(2, 60, 0, 0, 0), (0, 0, (-2147483648), 2147483647, a)] (xa_svR (xa_svI (fun _ _ _ _ => by omega) xa_sv0)) ?_
  refine xa_meth (Q0 := (3, 2, false, 0, 0, 12)) (by decide +kernel) ⟨rfl, rfl⟩ (full := s_c_295) rfl rfl ?_
  intro hM hv Q hgo
  have t105 := fun h0 h1 => xm_t105 hM a h0 h1
  have key : 0 ≤ a → a ≤ 3 → M 105 a = 1 → xm_bld M a → ∀ (M0 : xa_M), M0 60 68 = 124 * a + 1 → xm_agG M M0 a 0 (-1) → Q 43 [(2, (0, 0, 0, 14, 0)), (0, (2, 60, 0, 0, 0))] [] M0 := by
    intro a0 a1 h105 hb
    have loop3 : ∀ (n : Nat) (x : Int) (M1 : xa_M), 0 ≤ x → x ≤ 10 → M1 60 68 = 124 * a + 104 + 2 * x → xm_agG M M1 a 14 16 → 10 - x < (n : Int) → Q 149 [(2, (0, 0, 0, 10, x)), (0, (2, 60, 0, 0, 0))] [] M1 := by
      intro n
      induction n with
      | zero => intro x M1 h1 h2 e68 hk hms; omega
      | succ n ih =>
        intro x M1 h1 h2 e68 hk hms
        have h4 := fun j => hk.2.1 104 j (by omega) (by omega) (by omega)
        have g := hb.2.2.2.2 x h1
        have gg := hb.2.2.1
        have f0 := h4 (124 * a + 104 + 2 * x)
        have f1 := h4 (124 * a + 105 + 2 * x)
        refine hgo.1 22 [43, 115, 149] 149 _ _ _ ?_
        refine And.intro ?_ ?_
        · intro (c1 : 10 ≤ x)
          show post (some (0, 0, 1, 1, 1)) M1
          exact k _ _ (Or.inl ⟨⟨a0, a1, h105⟩, ⟨_, _, rfl⟩, hk⟩) (xm_agn_Inv hI hb hk.2)
        · intro (c1 : x < 10)
          show xa_C xm_I A h0 _ 296 [(2, 60, 0, 0, 0)] M1 _
          refine ct_nextCell (n := 124 * a + 104 + 2 * x) (by first | exact e68 | (simp [xa_up]; omega)) (by omega) (by omega) ?_
          refine And.intro (show 0 ≤ x ∧ x < 10 by omega) ?_
          refine And.intro (show (-500) ≤ (M1 104 (124 * a + 104 + 2 * x)) ∧ (M1 104 (124 * a + 104 + 2 * x)) ≤ 500 by omega) ?_
          show xa_C xm_I A h0 _ 296 [(2, 60, 0, 0, 0)] (xa_up (xa_up M1 60 68 ((124 * a + 104 + 2 * x) + 1)) 68 x (M1 104 (124 * a + 104 + 2 * x))) _
          refine ct_nextCell (n := 124 * a + 105 + 2 * x) (by first | exact e68 | (simp [xa_up]; omega)) (by omega) (by omega) ?_
          refine And.intro (show 0 ≤ x ∧ x < 10 by omega) ?_
          refine And.intro (show (-500) ≤ (M1 104 (124 * a + 105 + 2 * x)) ∧ (M1 104 (124 * a + 105 + 2 * x)) ≤ 500 by omega) ?_
          show Q 149 [(2, (0, 0, 1, 11, x + 1)), (0, (2, 60, 0, 0, 0))] [] (xa_up (xa_up (xa_up (xa_up M1 60 68 ((124 * a + 104 + 2 * x) + 1)) 68 x (M1 104 (124 * a + 104 + 2 * x))) 60 68 ((124 * a + 105 + 2 * x) + 1)) 69 x (M1 104 (124 * a + 105 + 2 * x)))
          refine hgo.2.1 149 _ [(2, (0, 0, 0, 10, x + 1)), (0, (2, 60, 0, 0, 0))] _ _ (xa_subI rfl rfl (fun _ _ _ _ => by omega) (xa_subR rfl xa_sub0)) ?_
          exact ih (x + 1) (xa_up (xa_up (xa_up (xa_up M1 60 68 ((124 * a + 104 + 2 * x) + 1)) 68 x (M1 104 (124 * a + 104 + 2 * x))) 60 68 ((124 * a + 105 + 2 * x) + 1)) 69 x (M1 104 (124 * a + 105 + 2 * x))) (by omega) (by omega) (by rw [xa_up_ne (by omega), xa_up_hit (by omega)]; omega) ⟨fun y y0 y1 => by
            have f := hk.1 y y0 (by omega)
            exact ⟨by
              rw [xa_up_ne (by omega), xa_up_ne (by omega), xa_up_ne (by omega), xa_up_ne (by omega)]
              exact f.1, by
              rw [xa_up_ne (by omega), xa_up_ne (by omega), xa_up_ne (by omega), xa_up_ne (by omega)]
              exact f.2⟩,
          fun q j hn h4 h5 => by
            rw [xa_up_ne (by omega), xa_up_ne (by omega), xa_up_ne (by omega), xa_up_ne (by omega)]
            exact hk.2.1 q j hn h4 h5,
          by
            rw [xa_up_ne (by omega), xa_up_ne (by omega), xa_up_ne (by omega), xa_up_ne (by omega)]
            exact hk.2.2.1,
          fun y y0 y1 => by
            have f := hk.2.2.2.1 y y0 y1
            exact ⟨by
              rw [xa_up_ne (by omega), xa_up_ne (by omega), xa_up_ne (by omega), xa_up_ne (by omega)]
              exact f.1, by
              rw [xa_up_ne (by omega), xa_up_ne (by omega), xa_up_ne (by omega), xa_up_ne (by omega)]
              exact f.2.1, by
              rw [xa_up_ne (by omega), xa_up_ne (by omega), xa_up_ne (by omega), xa_up_ne (by omega)]
              exact f.2.2⟩,
          fun h => by
            rw [xa_up_ne (by omega), xa_up_ne (by omega), xa_up_ne (by omega), xa_up_ne (by omega)]
            exact hk.2.2.2.2.1 (by omega),
          fun y y0 y1 => by
            have f := hk.2.2.2.2.2 y y0 y1
            exact ⟨by
              rw [xa_up_ne (by omega), xa_up_ne (by omega), xa_up_ne (by omega), xa_up_ne (by omega)]
              exact f.1, by
              rw [xa_up_ne (by omega), xa_up_ne (by omega), xa_up_ne (by omega), xa_up_ne (by omega)]
              exact f.2⟩⟩ (by omega)
    have loop2 : ∀ (n : Nat) (m : Int) (M1 : xa_M), 0 ≤ m → m ≤ 16 → M1 60 68 = 124 * a + 72 + 2 * m → xm_agG M M1 a 14 m → 16 - m < (n : Int) → Q 115 [(2, (0, 0, 0, 16, m)), (0, (2, 60, 0, 0, 0))] [] M1 := by
      intro n
      induction n with
      | zero => intro m M1 h1 h2 e68 hk hms; omega
      | succ n ih =>
        intro m M1 h1 h2 e68 hk hms
        have h4 := fun j => hk.2.1 104 j (by omega) (by omega) (by omega)
        have g := hb.2.2.2.1 m h1
        have gg := hb.2.2.1
        have f0 := h4 (124 * a + 72 + 2 * m)
        have f1 := h4 (124 * a + 73 + 2 * m)
        refine hgo.1 22 [43, 115, 149] 115 _ _ _ ?_
        refine And.intro ?_ ?_
        · intro (c1 : 16 ≤ m)
          show Q 149 [(2, (0, 0, 0, 0, 0)), (0, (2, 60, 0, 0, 0))] [] M1
          refine hgo.2.1 149 _ [(2, (0, 0, 0, 10, 0)), (0, (2, 60, 0, 0, 0))] _ _ (xa_subI rfl rfl (fun _ _ _ _ => by omega) (xa_subR rfl xa_sub0)) ?_
          rw [show m = 16 by omega] at hk e68
          exact loop3 11 0 M1 (by omega) (by omega) (by omega) hk (by omega)
        · intro (c1 : m < 16)
          show xa_C xm_I A h0 _ 296 [(2, 60, 0, 0, 0)] M1 _
          refine ct_nextCell (n := 124 * a + 72 + 2 * m) (by first | exact e68 | (simp [xa_up]; omega)) (by omega) (by omega) ?_
          refine And.intro (show 0 ≤ m ∧ m < 16 by omega) ?_
          refine And.intro (show 0 ≤ (M1 104 (124 * a + 72 + 2 * m)) ∧ (M1 104 (124 * a + 72 + 2 * m)) ≤ 13 by omega) ?_
          show xa_C xm_I A h0 _ 296 [(2, 60, 0, 0, 0)] (xa_up (xa_up M1 60 68 ((124 * a + 72 + 2 * m) + 1)) 66 m (M1 104 (124 * a + 72 + 2 * m))) _
          refine ct_nextCell (n := 124 * a + 73 + 2 * m) (by first | exact e68 | (simp [xa_up]; omega)) (by omega) (by omega) ?_
          refine And.intro (show 0 ≤ m ∧ m < 16 by omega) ?_
          refine And.intro (show 0 ≤ (M1 104 (124 * a + 73 + 2 * m)) ∧ (M1 104 (124 * a + 73 + 2 * m)) ≤ 13 by omega) ?_
          show Q 115 [(2, (0, 0, 1, 17, m + 1)), (0, (2, 60, 0, 0, 0))] [] (xa_up (xa_up (xa_up (xa_up M1 60 68 ((124 * a + 72 + 2 * m) + 1)) 66 m (M1 104 (124 * a + 72 + 2 * m))) 60 68 ((124 * a + 73 + 2 * m) + 1)) 67 m (M1 104 (124 * a + 73 + 2 * m)))
          refine hgo.2.1 115 _ [(2, (0, 0, 0, 16, m + 1)), (0, (2, 60, 0, 0, 0))] _ _ (xa_subI rfl rfl (fun _ _ _ _ => by omega) (xa_subR rfl xa_sub0)) ?_
          exact ih (m + 1) (xa_up (xa_up (xa_up (xa_up M1 60 68 ((124 * a + 72 + 2 * m) + 1)) 66 m (M1 104 (124 * a + 72 + 2 * m))) 60 68 ((124 * a + 73 + 2 * m) + 1)) 67 m (M1 104 (124 * a + 73 + 2 * m))) (by omega) (by omega) (by rw [xa_up_ne (by omega), xa_up_hit (by omega)]; omega) ⟨fun y y0 y1 => by
            have f := hk.1 y y0 (by omega)
            exact ⟨by
              rw [xa_up_ne (by omega), xa_up_ne (by omega), xa_up_ne (by omega), xa_up_ne (by omega)]
              exact f.1, by
              rw [xa_up_ne (by omega), xa_up_ne (by omega), xa_up_ne (by omega), xa_up_ne (by omega)]
              exact f.2⟩,
          fun q j hn h4 h5 => by
            rw [xa_up_ne (by omega), xa_up_ne (by omega), xa_up_ne (by omega), xa_up_ne (by omega)]
            exact hk.2.1 q j hn h4 h5,
          by
            rw [xa_up_ne (by omega), xa_up_ne (by omega), xa_up_ne (by omega), xa_up_ne (by omega)]
            exact hk.2.2.1,
          fun y y0 y1 => by
            have f := hk.2.2.2.1 y y0 y1
            exact ⟨by
              rw [xa_up_ne (by omega), xa_up_ne (by omega), xa_up_ne (by omega), xa_up_ne (by omega)]
              exact f.1, by
              rw [xa_up_ne (by omega), xa_up_ne (by omega), xa_up_ne (by omega), xa_up_ne (by omega)]
              exact f.2.1, by
              rw [xa_up_ne (by omega), xa_up_ne (by omega), xa_up_ne (by omega), xa_up_ne (by omega)]
              exact f.2.2⟩,
          fun h => by
            rw [xa_up_ne (by omega), xa_up_ne (by omega), xa_up_ne (by omega), xa_up_ne (by omega)]
            exact hk.2.2.2.2.1 (by omega),
          fun y y0 y1 => by
            by_cases e : y = m
            · rw [e]
              exact ⟨by
                rw [xa_up_ne (by omega), xa_up_ne (by omega), xa_up_hit (by omega)]
                exact hk.2.1 104 _ (by omega) (by omega) (by omega), by
                rw [xa_up_hit (by omega)]
                exact hk.2.1 104 _ (by omega) (by omega) (by omega)⟩
            · have f := hk.2.2.2.2.2 y y0 (by omega)
              exact ⟨by
                rw [xa_up_ne (by omega), xa_up_ne (by omega), xa_up_ne (by omega), xa_up_ne (by omega)]
                exact f.1, by
                rw [xa_up_ne (by omega), xa_up_ne (by omega), xa_up_ne (by omega), xa_up_ne (by omega)]
                exact f.2⟩⟩ (by omega)
    have loop1 : ∀ (n : Nat) (w : Int) (M1 : xa_M), 0 ≤ w → w ≤ 14 → M1 60 68 = 124 * a + 1 + 5 * w → xm_agG M M1 a w (-1) → 14 - w < (n : Int) → Q 43 [(2, (0, 0, 0, 14, w)), (0, (2, 60, 0, 0, 0))] [] M1 := by
      intro n
      induction n with
      | zero => intro w M1 h1 h2 e68 hk hms; omega
      | succ n ih =>
        intro w M1 h1 h2 e68 hk hms
        have h4 := fun j => hk.2.1 104 j (by omega) (by omega) (by omega)
        have g := hb.2.1 w h1
        have gg := hb.2.2.1
        have f0 := h4 (124 * a + 1 + 5 * w)
        have f1 := h4 (124 * a + 2 + 5 * w)
        have f2 := h4 (124 * a + 3 + 5 * w)
        have f3 := h4 (124 * a + 4 + 5 * w)
        have f4 := h4 (124 * a + 5 + 5 * w)
        have f6 := h4 (124 * a + 71)
        have e71 : 14 ≤ w → M1 60 68 = 124 * a + 71 := fun h => by omega
        refine hgo.1 40 [43, 115, 149] 43 _ _ _ ?_
        refine And.intro ?_ ?_
        · intro (c1 : 14 ≤ w)
          show xa_C xm_I A h0 _ 296 [(2, 60, 0, 0, 0)] M1 _
          refine ct_nextCell (n := 124 * a + 71) (by first | omega | exact e68 | (simp [xa_up]; omega)) (by omega) (by omega) ?_
          refine And.intro (show 0 ≤ (M1 104 (124 * a + 71)) ∧ (M1 104 (124 * a + 71)) ≤ 16 by omega) ?_
          show Q 115 [(2, (0, 0, 0, 0, 0)), (0, (2, 60, 0, 0, 0))] [] (xa_up (xa_up M1 60 68 ((124 * a + 71) + 1)) 60 6 (M1 104 (124 * a + 71)))
          refine hgo.2.1 115 _ [(2, (0, 0, 0, 16, 0)), (0, (2, 60, 0, 0, 0))] _ _ (xa_subI rfl rfl (fun _ _ _ _ => by omega) (xa_subR rfl xa_sub0)) ?_
          rw [show w = 14 by omega] at hk e68
          exact loop2 17 0 (xa_up (xa_up M1 60 68 ((124 * a + 71) + 1)) 60 6 (M1 104 (124 * a + 71))) (by omega) (by omega) (by rw [xa_up_ne (by omega), xa_up_hit (by omega)]; omega) ⟨fun y y0 y1 => by
            have f := hk.1 y y0 (by omega)
            exact ⟨by
              rw [xa_up_ne (by omega), xa_up_ne (by omega)]
              exact f.1, by
              rw [xa_up_ne (by omega), xa_up_ne (by omega)]
              exact f.2⟩,
          fun q j hn h4 h5 => by
            rw [xa_up_ne (by omega), xa_up_ne (by omega)]
            exact hk.2.1 q j hn h4 h5,
          by
            rw [xa_up_ne (by omega), xa_up_ne (by omega)]
            exact hk.2.2.1,
          fun y y0 y1 => by
            have f := hk.2.2.2.1 y y0 y1
            exact ⟨by
              rw [xa_up_ne (by omega), xa_up_ne (by omega)]
              exact f.1, by
              rw [xa_up_ne (by omega), xa_up_ne (by omega)]
              exact f.2.1, by
              rw [xa_up_ne (by omega), xa_up_ne (by omega)]
              exact f.2.2⟩,
          fun _ => by
            rw [xa_up_hit (by omega)]
            exact f6,
          fun y y0 y1 => by omega⟩ (by omega)
        · intro (c1 : w < 14)
          show xa_C xm_I A h0 _ 296 [(2, 60, 0, 0, 0)] M1 _
          refine ct_nextCell (n := 124 * a + 1 + 5 * w) (by first | exact e68 | (simp [xa_up]; omega)) (by omega) (by omega) ?_
          refine And.intro (show 0 ≤ w ∧ w < 14 by omega) ?_
          refine And.intro (show 0 ≤ (M1 104 (124 * a + 1 + 5 * w)) ∧ (M1 104 (124 * a + 1 + 5 * w)) ≤ 400 by omega) ?_
          show xa_C xm_I A h0 _ 296 [(2, 60, 0, 0, 0)] (xa_up (xa_up M1 60 68 ((124 * a + 1 + 5 * w) + 1)) 61 w (M1 104 (124 * a + 1 + 5 * w))) _
          refine ct_nextCell (n := 124 * a + 2 + 5 * w) (by first | exact e68 | (simp [xa_up]; omega)) (by omega) (by omega) ?_
          refine And.intro (show 0 ≤ w ∧ w < 14 by omega) ?_
          refine And.intro (show 0 ≤ (M1 104 (124 * a + 2 + 5 * w)) ∧ (M1 104 (124 * a + 2 + 5 * w)) ≤ 400 by omega) ?_
          show xa_C xm_I A h0 _ 296 [(2, 60, 0, 0, 0)] (xa_up (xa_up (xa_up (xa_up M1 60 68 ((124 * a + 1 + 5 * w) + 1)) 61 w (M1 104 (124 * a + 1 + 5 * w))) 60 68 ((124 * a + 2 + 5 * w) + 1)) 62 w (M1 104 (124 * a + 2 + 5 * w))) _
          refine ct_nextCell (n := 124 * a + 3 + 5 * w) (by first | exact e68 | (simp [xa_up]; omega)) (by omega) (by omega) ?_
          refine And.intro (show 0 ≤ w ∧ w < 14 by omega) ?_
          refine And.intro (show 0 ≤ (M1 104 (124 * a + 3 + 5 * w)) ∧ (M1 104 (124 * a + 3 + 5 * w)) ≤ 400 by omega) ?_
          show xa_C xm_I A h0 _ 296 [(2, 60, 0, 0, 0)] (xa_up (xa_up (xa_up (xa_up (xa_up (xa_up M1 60 68 ((124 * a + 1 + 5 * w) + 1)) 61 w (M1 104 (124 * a + 1 + 5 * w))) 60 68 ((124 * a + 2 + 5 * w) + 1)) 62 w (M1 104 (124 * a + 2 + 5 * w))) 60 68 ((124 * a + 3 + 5 * w) + 1)) 63 w (M1 104 (124 * a + 3 + 5 * w))) _
          refine ct_nextCell (n := 124 * a + 4 + 5 * w) (by first | exact e68 | (simp [xa_up]; omega)) (by omega) (by omega) ?_
          refine And.intro (show 0 ≤ w ∧ w < 14 by omega) ?_
          refine And.intro (show 0 ≤ (M1 104 (124 * a + 4 + 5 * w)) ∧ (M1 104 (124 * a + 4 + 5 * w)) ≤ 9 by omega) ?_
          show xa_C xm_I A h0 _ 296 [(2, 60, 0, 0, 0)] (xa_up (xa_up (xa_up (xa_up (xa_up (xa_up (xa_up (xa_up M1 60 68 ((124 * a + 1 + 5 * w) + 1)) 61 w (M1 104 (124 * a + 1 + 5 * w))) 60 68 ((124 * a + 2 + 5 * w) + 1)) 62 w (M1 104 (124 * a + 2 + 5 * w))) 60 68 ((124 * a + 3 + 5 * w) + 1)) 63 w (M1 104 (124 * a + 3 + 5 * w))) 60 68 ((124 * a + 4 + 5 * w) + 1)) 64 w (M1 104 (124 * a + 4 + 5 * w))) _
          refine ct_nextCell (n := 124 * a + 5 + 5 * w) (by first | exact e68 | (simp [xa_up]; omega)) (by omega) (by omega) ?_
          refine And.intro (show 0 ≤ w ∧ w < 14 by omega) ?_
          refine And.intro (show 0 ≤ (M1 104 (124 * a + 5 + 5 * w)) ∧ (M1 104 (124 * a + 5 + 5 * w)) ≤ 9 by omega) ?_
          show Q 43 [(2, (0, 0, 1, 15, w + 1)), (0, (2, 60, 0, 0, 0))] [] (xa_up (xa_up (xa_up (xa_up (xa_up (xa_up (xa_up (xa_up (xa_up (xa_up M1 60 68 ((124 * a + 1 + 5 * w) + 1)) 61 w (M1 104 (124 * a + 1 + 5 * w))) 60 68 ((124 * a + 2 + 5 * w) + 1)) 62 w (M1 104 (124 * a + 2 + 5 * w))) 60 68 ((124 * a + 3 + 5 * w) + 1)) 63 w (M1 104 (124 * a + 3 + 5 * w))) 60 68 ((124 * a + 4 + 5 * w) + 1)) 64 w (M1 104 (124 * a + 4 + 5 * w))) 60 68 ((124 * a + 5 + 5 * w) + 1)) 65 w (M1 104 (124 * a + 5 + 5 * w)))
          refine hgo.2.1 43 _ [(2, (0, 0, 0, 14, w + 1)), (0, (2, 60, 0, 0, 0))] _ _ (xa_subI rfl rfl (fun _ _ _ _ => by omega) (xa_subR rfl xa_sub0)) ?_
          exact ih (w + 1) (xa_up (xa_up (xa_up (xa_up (xa_up (xa_up (xa_up (xa_up (xa_up (xa_up M1 60 68 ((124 * a + 1 + 5 * w) + 1)) 61 w (M1 104 (124 * a + 1 + 5 * w))) 60 68 ((124 * a + 2 + 5 * w) + 1)) 62 w (M1 104 (124 * a + 2 + 5 * w))) 60 68 ((124 * a + 3 + 5 * w) + 1)) 63 w (M1 104 (124 * a + 3 + 5 * w))) 60 68 ((124 * a + 4 + 5 * w) + 1)) 64 w (M1 104 (124 * a + 4 + 5 * w))) 60 68 ((124 * a + 5 + 5 * w) + 1)) 65 w (M1 104 (124 * a + 5 + 5 * w))) (by omega) (by omega) (by rw [xa_up_ne (by omega), xa_up_hit (by omega)]; omega) ⟨fun y y0 y1 => by
            by_cases e : y = w
            · rw [e]
              exact ⟨by
                rw [xa_up_ne (by omega), xa_up_ne (by omega), xa_up_hit (by omega)]
                exact hk.2.1 104 _ (by omega) (by omega) (by omega), by
                rw [xa_up_hit (by omega)]
                exact hk.2.1 104 _ (by omega) (by omega) (by omega)⟩
            · have f := hk.1 y y0 (by omega)
              exact ⟨by
                rw [xa_up_ne (by omega), xa_up_ne (by omega), xa_up_ne (by omega), xa_up_ne (by omega), xa_up_ne (by omega), xa_up_ne (by omega), xa_up_ne (by omega), xa_up_ne (by omega), xa_up_ne (by omega), xa_up_ne (by omega)]
                exact f.1, by
                rw [xa_up_ne (by omega), xa_up_ne (by omega), xa_up_ne (by omega), xa_up_ne (by omega), xa_up_ne (by omega), xa_up_ne (by omega), xa_up_ne (by omega), xa_up_ne (by omega), xa_up_ne (by omega), xa_up_ne (by omega)]
                exact f.2⟩,
          fun q j hn h4 h5 => by
            rw [xa_up_ne (by omega), xa_up_ne (by omega), xa_up_ne (by omega), xa_up_ne (by omega), xa_up_ne (by omega), xa_up_ne (by omega), xa_up_ne (by omega), xa_up_ne (by omega), xa_up_ne (by omega), xa_up_ne (by omega)]
            exact hk.2.1 q j hn h4 h5,
          by
            rw [xa_up_ne (by omega), xa_up_ne (by omega), xa_up_ne (by omega), xa_up_ne (by omega), xa_up_ne (by omega), xa_up_ne (by omega), xa_up_ne (by omega), xa_up_ne (by omega), xa_up_ne (by omega), xa_up_ne (by omega)]
            exact hk.2.2.1,
          fun y y0 y1 => by
            by_cases e : y = w
            · rw [e]
              exact ⟨by
                rw [xa_up_ne (by omega), xa_up_ne (by omega), xa_up_ne (by omega), xa_up_ne (by omega), xa_up_ne (by omega), xa_up_ne (by omega), xa_up_ne (by omega), xa_up_ne (by omega), xa_up_hit (by omega)]
                exact hk.2.1 104 _ (by omega) (by omega) (by omega), by
                rw [xa_up_ne (by omega), xa_up_ne (by omega), xa_up_ne (by omega), xa_up_ne (by omega), xa_up_ne (by omega), xa_up_ne (by omega), xa_up_hit (by omega)]
                exact hk.2.1 104 _ (by omega) (by omega) (by omega), by
                rw [xa_up_ne (by omega), xa_up_ne (by omega), xa_up_ne (by omega), xa_up_ne (by omega), xa_up_hit (by omega)]
                exact hk.2.1 104 _ (by omega) (by omega) (by omega)⟩
            · have f := hk.2.2.2.1 y y0 (by omega)
              exact ⟨by
                rw [xa_up_ne (by omega), xa_up_ne (by omega), xa_up_ne (by omega), xa_up_ne (by omega), xa_up_ne (by omega), xa_up_ne (by omega), xa_up_ne (by omega), xa_up_ne (by omega), xa_up_ne (by omega), xa_up_ne (by omega)]
                exact f.1, by
                rw [xa_up_ne (by omega), xa_up_ne (by omega), xa_up_ne (by omega), xa_up_ne (by omega), xa_up_ne (by omega), xa_up_ne (by omega), xa_up_ne (by omega), xa_up_ne (by omega), xa_up_ne (by omega), xa_up_ne (by omega)]
                exact f.2.1, by
                rw [xa_up_ne (by omega), xa_up_ne (by omega), xa_up_ne (by omega), xa_up_ne (by omega), xa_up_ne (by omega), xa_up_ne (by omega), xa_up_ne (by omega), xa_up_ne (by omega), xa_up_ne (by omega), xa_up_ne (by omega)]
                exact f.2.2⟩,
          fun h => by
            rw [xa_up_ne (by omega), xa_up_ne (by omega), xa_up_ne (by omega), xa_up_ne (by omega), xa_up_ne (by omega), xa_up_ne (by omega), xa_up_ne (by omega), xa_up_ne (by omega), xa_up_ne (by omega), xa_up_ne (by omega)]
            exact hk.2.2.2.2.1 (by omega),
          fun y y0 y1 => by
            have f := hk.2.2.2.2.2 y y0 y1
            exact ⟨by
              rw [xa_up_ne (by omega), xa_up_ne (by omega), xa_up_ne (by omega), xa_up_ne (by omega), xa_up_ne (by omega), xa_up_ne (by omega), xa_up_ne (by omega), xa_up_ne (by omega), xa_up_ne (by omega), xa_up_ne (by omega)]
              exact f.1, by
              rw [xa_up_ne (by omega), xa_up_ne (by omega), xa_up_ne (by omega), xa_up_ne (by omega), xa_up_ne (by omega), xa_up_ne (by omega), xa_up_ne (by omega), xa_up_ne (by omega), xa_up_ne (by omega), xa_up_ne (by omega)]
              exact f.2⟩⟩ (by omega)
    intro M0 e hk
    exact hgo.2.1 43 _ [(2, (0, 0, 0, 14, 0)), (0, (2, 60, 0, 0, 0))] _ _ (xa_subI rfl rfl (fun _ _ _ _ => by omega) (xa_subR rfl xa_sub0)) (loop1 15 0 M0 (by omega) (by omega) (by omega) hk (by omega))
  refine hgo.1 19 [25] 0 _ _ _ ?_
  show xa_C xm_I A h0 _ 214 [(0, 0, (-2147483648), 2147483647, a), (0, 0, 0, 0, 0), (0, 0, 3, 3, 3)] (xa_up M 60 21 0) _
  refine ct_in ?_ ?_
  · intro (i1 : 0 ≤ a ∧ a ≤ 3)
    refine And.intro (show 0 ≤ a ∧ a < 4 by omega) ?_
    refine And.intro ?_ ?_
    · intro (c2 : ¬ (M 105 a) = 0)
      show Q 25 [(0, (2, 60, 0, 0, 0)), (1, (0, 0, (-2147483648), 2147483647, a))] [] (xa_up M 60 21 0)
      refine hgo.2.1 25 _ [(0, (2, 60, 0, 0, 0)), (1, (0, 0, 0, 3, a))] _ _ (xa_subR rfl (xa_subI rfl rfl (fun _ _ _ _ => by omega) xa_sub0)) ?_
      have g1 := hI.2.2.2.2 a (by omega) (by omega) (by omega)
      have g2 := g1.1
      have e68 : xa_up M 60 68 (124 * a) 60 68 = 124 * a := xa_up_eq
      refine hgo.1 16 [43] 25 _ _ _ ?_
      show xa_C xm_I A h0 _ 296 [(2, 60, 0, 0, 0)] (xa_up (xa_up M 60 21 0) 60 68 (124 * a)) _
      refine ct_nextCell (n := 124 * a) (by first | exact e68 | (simp [xa_up]; omega)) (by omega) (by omega) ?_
      refine And.intro (show 0 ≤ (M 104 (124 * a)) ∧ (M 104 (124 * a)) ≤ 14 by omega) ?_
      show Q 43 [(2, (0, 0, 0, 0, 0)), (0, (2, 60, 0, 0, 0)), (1, (0, 0, 0, 3, a))] [] (xa_up (xa_up (xa_up (xa_up M 60 21 0) 60 68 (124 * a)) 60 68 ((124 * a) + 1)) 60 0 (M 104 (124 * a)))
      refine hgo.2.1 43 _ [(2, (0, 0, 0, 14, 0)), (0, (2, 60, 0, 0, 0))] _ _ (xa_subI rfl rfl (fun _ _ _ _ => by omega) (xa_subR rfl xa_sub0)) ?_
      exact key (by omega) (by omega) (by omega) (hI.2.2.2.2 a (by omega) (by omega) (by omega)) (xa_up (xa_up (xa_up (xa_up M 60 21 0) 60 68 (124 * a)) 60 68 ((124 * a) + 1)) 60 0 (M 104 (124 * a))) (by rw [xa_up_ne (by omega), xa_up_hit (by omega)]) ⟨fun y y0 y1 => by omega,
      fun q j hn h4 h5 => by
        rw [xa_up_ne (by omega), xa_up_ne (by omega), xa_up_ne (by omega), xa_up_ne (by omega)],
      by
        rw [xa_up_hit (by omega)],
      fun y y0 y1 => by omega,
      fun h => by omega,
      fun y y0 y1 => by omega⟩
    · intro (c2 : (M 105 a) = 0)
      show post (some (0, 0, 0, 0, 0)) (xa_up M 60 21 0)
      exact k _ _ (Or.inr ⟨by omega, ⟨_, _, rfl⟩, rfl⟩) (xm_Inv_cor (xm_cor_f (by omega) xm_cor_r) hI)
  · intro (i1 : ¬ (0 ≤ a ∧ a ≤ 3))
    show post (some (0, 0, 0, 0, 0)) (xa_up M 60 21 0)
    exact k _ _ (Or.inr ⟨by omega, ⟨_, _, rfl⟩, rfl⟩) (xm_Inv_cor (xm_cor_f (by omega) xm_cor_r) hI)
