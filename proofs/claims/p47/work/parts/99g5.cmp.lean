-- keep: both answer the same
set_option maxRecDepth 20000
def iv_keep (a : Int) : Int := if 0 ≤ a ∧ a ≤ 3 then 1 else 0
theorem ms_keepF {A : Nat → Nat} {h0 : g_H} {d : Nat} {M : xa_M} {post : Option xa_V → xa_M → Prop} {l1 u1 : Int} {a : Int} (hI : xm_Inv M) (k : ∀ (r : Int) (M1 : xa_M), r = iv_keep a → xm_Inv M1 → post (some (0, 0, r, r, r)) M1) : xa_C xm_I A h0 (d + 2) 293 [(2, 60, 0, 0, 0), (0, 0, l1, u1, a)] M post := by
  refine xa_C_arg [(2, 60, 0, 0, 0), (0, 0, (-2147483648), 2147483647, a)] (xa_svR (xa_svI (fun _ _ _ _ => by omega) xa_sv0)) ?_
  refine xa_meth (Q0 := (3, 2, false, 0, 0, 12)) (by decide +kernel) ⟨rfl, rfl⟩ (full := s_c_293) rfl rfl ?_
  intro hM hv Q hgo
  have key : 0 ≤ a → a ≤ 3 → ∀ (M0 : xa_M), M0 60 68 = 124 * a + 1 → xm_kpt M M0 a 0 (-1) 0 → Q 41 [(2, (0, 0, 0, 14, 0)), (0, (2, 60, 0, 0, 0))] [] M0 := by
    intro a0 a1
    have loop3 : ∀ (n : Nat) (x : Int) (M1 : xa_M), 0 ≤ x → x ≤ 10 → M1 60 68 = 124 * a + 104 + 2 * x → xm_kpt M M1 a 14 16 x → 10 - x < (n : Int) → Q 147 [(2, (0, 0, 0, 10, x)), (0, (2, 60, 0, 0, 0))] [] M1 := by
      intro n
      induction n with
      | zero => intro x M1 h1 h2 e68 hk hms; omega
      | succ n ih =>
        intro x M1 h1 h2 e68 hk hms
        have hs := fun q j (hn : ¬ xm_scr q j) (hq : ¬ q = 104 ∧ ¬ q = 105) => hk.1 q j hn hq.1 hq.2
        have s68 := hs 68 x (by omega) (by omega)
        have s69 := hs 69 x (by omega) (by omega)
        have s6 := hs 60 6 (by omega) (by omega)
        refine hgo.1 22 [41, 113, 147] 147 _ _ _ ?_
        refine And.intro ?_ ?_
        · intro (c1 : 10 ≤ x)
          show post (some (0, 0, 1, 1, 1)) M1
          rw [show x = 10 by omega] at hk
          exact k 1 _ ((if_pos (by omega)).symm) (xm_kpt_Inv hM hI hk)
        · intro (c1 : x < 10)
          refine And.intro (show 0 ≤ x ∧ x < 10 by omega) ?_
          show xa_C xm_I A h0 _ 294 [(2, 60, 0, 0, 0), (0, 0, (-500), 500, M1 68 x)] M1 _
          refine ct_putCell (n := M1 60 68) (by first | rfl | omega | (simp [xa_up]; done)) (by omega) (by omega) ?_
          refine And.intro (show 0 ≤ x ∧ x < 10 by omega) ?_
          show xa_C xm_I A h0 _ 294 [(2, 60, 0, 0, 0), (0, 0, (-500), 500, M1 69 x)] (xa_up (xa_up M1 104 (M1 60 68) (M1 68 x)) 60 68 ((M1 60 68) + 1)) _
          refine ct_putCell (n := (M1 60 68) + 1) (by first | rfl | omega | (simp [xa_up]; done)) (by omega) (by omega) ?_
          show Q 147 [(2, (0, 0, 1, 11, x + 1)), (0, (2, 60, 0, 0, 0))] [] (xa_up (xa_up (xa_up (xa_up M1 104 (M1 60 68) (M1 68 x)) 60 68 ((M1 60 68) + 1)) 104 ((M1 60 68) + 1) (M1 69 x)) 60 68 (((M1 60 68) + 1) + 1))
          refine hgo.2.1 147 _ [(2, (0, 0, 0, 10, x + 1)), (0, (2, 60, 0, 0, 0))] _ _ (xa_subI rfl rfl (fun _ _ _ _ => by omega) (xa_subR rfl xa_sub0)) ?_
          exact ih (x + 1) (xa_up (xa_up (xa_up (xa_up M1 104 (M1 60 68) (M1 68 x)) 60 68 ((M1 60 68) + 1)) 104 ((M1 60 68) + 1) (M1 69 x)) 60 68 (((M1 60 68) + 1) + 1)) (by omega) (by omega) (by rw [xa_up_hit (by omega)]; omega) ⟨fun q j hn h4 h5 => by
            rw [xa_up_ne (by omega), xa_up_ne (by omega), xa_up_ne (by omega), xa_up_ne (by omega)]
            exact hk.1 q j hn h4 h5,
          fun j hj => by
            rw [xa_up_ne (by omega), xa_up_ne (by omega), xa_up_ne (by omega), xa_up_ne (by omega)]
            exact hk.2.1 j hj,
          fun j hj => by
            rw [xa_up_ne (by omega), xa_up_ne (by omega), xa_up_ne (by omega), xa_up_ne (by omega)]
            exact hk.2.2.1 j hj,
          by
            rw [xa_up_ne (by omega), xa_up_ne (by omega), xa_up_ne (by omega), xa_up_ne (by omega)]
            exact hk.2.2.2.1,
          fun y y0 y1 => by
            have f := hk.2.2.2.2.1 y y0 y1
            exact ⟨by
              rw [xa_up_ne (by omega), xa_up_ne (by omega), xa_up_ne (by omega), xa_up_ne (by omega)]
              exact f.1, by
              rw [xa_up_ne (by omega), xa_up_ne (by omega), xa_up_ne (by omega), xa_up_ne (by omega)]
              exact f.2.1, by
              rw [xa_up_ne (by omega), xa_up_ne (by omega), xa_up_ne (by omega), xa_up_ne (by omega)]
              exact f.2.2.1, by
              rw [xa_up_ne (by omega), xa_up_ne (by omega), xa_up_ne (by omega), xa_up_ne (by omega)]
              exact f.2.2.2.1, by
              rw [xa_up_ne (by omega), xa_up_ne (by omega), xa_up_ne (by omega), xa_up_ne (by omega)]
              exact f.2.2.2.2⟩,
          fun h => by
            rw [xa_up_ne (by omega), xa_up_ne (by omega), xa_up_ne (by omega), xa_up_ne (by omega)]
            exact hk.2.2.2.2.2.1 (by omega),
          fun y y0 y1 => by
            have f := hk.2.2.2.2.2.2.1 y y0 y1
            exact ⟨by
              rw [xa_up_ne (by omega), xa_up_ne (by omega), xa_up_ne (by omega), xa_up_ne (by omega)]
              exact f.1, by
              rw [xa_up_ne (by omega), xa_up_ne (by omega), xa_up_ne (by omega), xa_up_ne (by omega)]
              exact f.2⟩,
          fun y y0 y1 => by
            by_cases e : y = x
            · rw [e]
              exact ⟨by
                rw [xa_up_ne (by omega), xa_up_ne (by omega), xa_up_ne (by omega), xa_up_hit (by omega)]
                omega, by
                rw [xa_up_ne (by omega), xa_up_hit (by omega)]
                omega⟩
            · have f := hk.2.2.2.2.2.2.2 y y0 (by omega)
              exact ⟨by
                rw [xa_up_ne (by omega), xa_up_ne (by omega), xa_up_ne (by omega), xa_up_ne (by omega)]
                exact f.1, by
                rw [xa_up_ne (by omega), xa_up_ne (by omega), xa_up_ne (by omega), xa_up_ne (by omega)]
                exact f.2⟩⟩ (by omega)
    have loop2 : ∀ (n : Nat) (m : Int) (M1 : xa_M), 0 ≤ m → m ≤ 16 → M1 60 68 = 124 * a + 72 + 2 * m → xm_kpt M M1 a 14 m 0 → 16 - m < (n : Int) → Q 113 [(2, (0, 0, 0, 16, m)), (0, (2, 60, 0, 0, 0))] [] M1 := by
      intro n
      induction n with
      | zero => intro m M1 h1 h2 e68 hk hms; omega
      | succ n ih =>
        intro m M1 h1 h2 e68 hk hms
        have hs := fun q j (hn : ¬ xm_scr q j) (hq : ¬ q = 104 ∧ ¬ q = 105) => hk.1 q j hn hq.1 hq.2
        have s66 := hs 66 m (by omega) (by omega)
        have s67 := hs 67 m (by omega) (by omega)
        have s6 := hs 60 6 (by omega) (by omega)
        refine hgo.1 22 [41, 113, 147] 113 _ _ _ ?_
        refine And.intro ?_ ?_
        · intro (c1 : 16 ≤ m)
          show Q 147 [(2, (0, 0, 0, 0, 0)), (0, (2, 60, 0, 0, 0))] [] M1
          refine hgo.2.1 147 _ [(2, (0, 0, 0, 10, 0)), (0, (2, 60, 0, 0, 0))] _ _ (xa_subI rfl rfl (fun _ _ _ _ => by omega) (xa_subR rfl xa_sub0)) ?_
          rw [show m = 16 by omega] at hk e68
          exact loop3 11 0 M1 (by omega) (by omega) (by omega) hk (by omega)
        · intro (c1 : m < 16)
          refine And.intro (show 0 ≤ m ∧ m < 16 by omega) ?_
          show xa_C xm_I A h0 _ 294 [(2, 60, 0, 0, 0), (0, 0, 0, 13, M1 66 m)] M1 _
          refine ct_putCell (n := M1 60 68) (by first | rfl | omega | (simp [xa_up]; done)) (by omega) (by omega) ?_
          refine And.intro (show 0 ≤ m ∧ m < 16 by omega) ?_
          show xa_C xm_I A h0 _ 294 [(2, 60, 0, 0, 0), (0, 0, 0, 13, M1 67 m)] (xa_up (xa_up M1 104 (M1 60 68) (M1 66 m)) 60 68 ((M1 60 68) + 1)) _
          refine ct_putCell (n := (M1 60 68) + 1) (by first | rfl | omega | (simp [xa_up]; done)) (by omega) (by omega) ?_
          show Q 113 [(2, (0, 0, 1, 17, m + 1)), (0, (2, 60, 0, 0, 0))] [] (xa_up (xa_up (xa_up (xa_up M1 104 (M1 60 68) (M1 66 m)) 60 68 ((M1 60 68) + 1)) 104 ((M1 60 68) + 1) (M1 67 m)) 60 68 (((M1 60 68) + 1) + 1))
          refine hgo.2.1 113 _ [(2, (0, 0, 0, 16, m + 1)), (0, (2, 60, 0, 0, 0))] _ _ (xa_subI rfl rfl (fun _ _ _ _ => by omega) (xa_subR rfl xa_sub0)) ?_
          exact ih (m + 1) (xa_up (xa_up (xa_up (xa_up M1 104 (M1 60 68) (M1 66 m)) 60 68 ((M1 60 68) + 1)) 104 ((M1 60 68) + 1) (M1 67 m)) 60 68 (((M1 60 68) + 1) + 1)) (by omega) (by omega) (by rw [xa_up_hit (by omega)]; omega) ⟨fun q j hn h4 h5 => by
            rw [xa_up_ne (by omega), xa_up_ne (by omega), xa_up_ne (by omega), xa_up_ne (by omega)]
            exact hk.1 q j hn h4 h5,
          fun j hj => by
            rw [xa_up_ne (by omega), xa_up_ne (by omega), xa_up_ne (by omega), xa_up_ne (by omega)]
            exact hk.2.1 j hj,
          fun j hj => by
            rw [xa_up_ne (by omega), xa_up_ne (by omega), xa_up_ne (by omega), xa_up_ne (by omega)]
            exact hk.2.2.1 j hj,
          by
            rw [xa_up_ne (by omega), xa_up_ne (by omega), xa_up_ne (by omega), xa_up_ne (by omega)]
            exact hk.2.2.2.1,
          fun y y0 y1 => by
            have f := hk.2.2.2.2.1 y y0 y1
            exact ⟨by
              rw [xa_up_ne (by omega), xa_up_ne (by omega), xa_up_ne (by omega), xa_up_ne (by omega)]
              exact f.1, by
              rw [xa_up_ne (by omega), xa_up_ne (by omega), xa_up_ne (by omega), xa_up_ne (by omega)]
              exact f.2.1, by
              rw [xa_up_ne (by omega), xa_up_ne (by omega), xa_up_ne (by omega), xa_up_ne (by omega)]
              exact f.2.2.1, by
              rw [xa_up_ne (by omega), xa_up_ne (by omega), xa_up_ne (by omega), xa_up_ne (by omega)]
              exact f.2.2.2.1, by
              rw [xa_up_ne (by omega), xa_up_ne (by omega), xa_up_ne (by omega), xa_up_ne (by omega)]
              exact f.2.2.2.2⟩,
          fun h => by
            rw [xa_up_ne (by omega), xa_up_ne (by omega), xa_up_ne (by omega), xa_up_ne (by omega)]
            exact hk.2.2.2.2.2.1 (by omega),
          fun y y0 y1 => by
            by_cases e : y = m
            · rw [e]
              exact ⟨by
                rw [xa_up_ne (by omega), xa_up_ne (by omega), xa_up_ne (by omega), xa_up_hit (by omega)]
                omega, by
                rw [xa_up_ne (by omega), xa_up_hit (by omega)]
                omega⟩
            · have f := hk.2.2.2.2.2.2.1 y y0 (by omega)
              exact ⟨by
                rw [xa_up_ne (by omega), xa_up_ne (by omega), xa_up_ne (by omega), xa_up_ne (by omega)]
                exact f.1, by
                rw [xa_up_ne (by omega), xa_up_ne (by omega), xa_up_ne (by omega), xa_up_ne (by omega)]
                exact f.2⟩,
          fun y y0 y1 => by
            have f := hk.2.2.2.2.2.2.2 y y0 y1
            exact ⟨by
              rw [xa_up_ne (by omega), xa_up_ne (by omega), xa_up_ne (by omega), xa_up_ne (by omega)]
              exact f.1, by
              rw [xa_up_ne (by omega), xa_up_ne (by omega), xa_up_ne (by omega), xa_up_ne (by omega)]
              exact f.2⟩⟩ (by omega)
    have loop1 : ∀ (n : Nat) (w : Int) (M1 : xa_M), 0 ≤ w → w ≤ 14 → M1 60 68 = 124 * a + 1 + 5 * w → xm_kpt M M1 a w (-1) 0 → 14 - w < (n : Int) → Q 41 [(2, (0, 0, 0, 14, w)), (0, (2, 60, 0, 0, 0))] [] M1 := by
      intro n
      induction n with
      | zero => intro w M1 h1 h2 e68 hk hms; omega
      | succ n ih =>
        intro w M1 h1 h2 e68 hk hms
        have hs := fun q j (hn : ¬ xm_scr q j) (hq : ¬ q = 104 ∧ ¬ q = 105) => hk.1 q j hn hq.1 hq.2
        have s61 := hs 61 w (by omega) (by omega)
        have s62 := hs 62 w (by omega) (by omega)
        have s63 := hs 63 w (by omega) (by omega)
        have s64 := hs 64 w (by omega) (by omega)
        have s65 := hs 65 w (by omega) (by omega)
        have s6 := hs 60 6 (by omega) (by omega)
        refine hgo.1 40 [41, 113, 147] 41 _ _ _ ?_
        refine And.intro ?_ ?_
        · intro (c1 : 14 ≤ w)
          show xa_C xm_I A h0 _ 294 [(2, 60, 0, 0, 0), (0, 0, 0, 16, M1 60 6)] M1 _
          refine ct_putCell (n := M1 60 68) (by first | rfl | omega | (simp [xa_up]; done)) (by omega) (by omega) ?_
          show Q 113 [(2, (0, 0, 0, 0, 0)), (0, (2, 60, 0, 0, 0))] [] (xa_up (xa_up M1 104 (M1 60 68) (M1 60 6)) 60 68 ((M1 60 68) + 1))
          refine hgo.2.1 113 _ [(2, (0, 0, 0, 16, 0)), (0, (2, 60, 0, 0, 0))] _ _ (xa_subI rfl rfl (fun _ _ _ _ => by omega) (xa_subR rfl xa_sub0)) ?_
          rw [show w = 14 by omega] at hk e68
          exact loop2 17 0 (xa_up (xa_up M1 104 (M1 60 68) (M1 60 6)) 60 68 ((M1 60 68) + 1)) (by omega) (by omega) (by rw [xa_up_hit (by omega)]; omega) ⟨fun q j hn h4 h5 => by
            rw [xa_up_ne (by omega), xa_up_ne (by omega)]
            exact hk.1 q j hn h4 h5,
          fun j hj => by
            rw [xa_up_ne (by omega), xa_up_ne (by omega)]
            exact hk.2.1 j hj,
          fun j hj => by
            rw [xa_up_ne (by omega), xa_up_ne (by omega)]
            exact hk.2.2.1 j hj,
          by
            rw [xa_up_ne (by omega), xa_up_ne (by omega)]
            exact hk.2.2.2.1,
          fun y y0 y1 => by
            have f := hk.2.2.2.2.1 y y0 y1
            exact ⟨by
              rw [xa_up_ne (by omega), xa_up_ne (by omega)]
              exact f.1, by
              rw [xa_up_ne (by omega), xa_up_ne (by omega)]
              exact f.2.1, by
              rw [xa_up_ne (by omega), xa_up_ne (by omega)]
              exact f.2.2.1, by
              rw [xa_up_ne (by omega), xa_up_ne (by omega)]
              exact f.2.2.2.1, by
              rw [xa_up_ne (by omega), xa_up_ne (by omega)]
              exact f.2.2.2.2⟩,
          fun _ => by
            rw [xa_up_ne (by omega), xa_up_hit (by omega)]
            exact s6,
          fun y y0 y1 => by omega,
          fun y y0 y1 => by
            have f := hk.2.2.2.2.2.2.2 y y0 y1
            exact ⟨by
              rw [xa_up_ne (by omega), xa_up_ne (by omega)]
              exact f.1, by
              rw [xa_up_ne (by omega), xa_up_ne (by omega)]
              exact f.2⟩⟩ (by omega)
        · intro (c1 : w < 14)
          refine And.intro (show 0 ≤ w ∧ w < 14 by omega) ?_
          show xa_C xm_I A h0 _ 294 [(2, 60, 0, 0, 0), (0, 0, 0, 400, M1 61 w)] M1 _
          refine ct_putCell (n := M1 60 68) (by first | rfl | omega | (simp [xa_up]; done)) (by omega) (by omega) ?_
          refine And.intro (show 0 ≤ w ∧ w < 14 by omega) ?_
          show xa_C xm_I A h0 _ 294 [(2, 60, 0, 0, 0), (0, 0, 0, 400, M1 62 w)] (xa_up (xa_up M1 104 (M1 60 68) (M1 61 w)) 60 68 ((M1 60 68) + 1)) _
          refine ct_putCell (n := (M1 60 68) + 1) (by first | rfl | omega | (simp [xa_up]; done)) (by omega) (by omega) ?_
          refine And.intro (show 0 ≤ w ∧ w < 14 by omega) ?_
          show xa_C xm_I A h0 _ 294 [(2, 60, 0, 0, 0), (0, 0, 0, 400, M1 63 w)] (xa_up (xa_up (xa_up (xa_up M1 104 (M1 60 68) (M1 61 w)) 60 68 ((M1 60 68) + 1)) 104 ((M1 60 68) + 1) (M1 62 w)) 60 68 (((M1 60 68) + 1) + 1)) _
          refine ct_putCell (n := ((M1 60 68) + 1) + 1) (by first | rfl | omega | (simp [xa_up]; done)) (by omega) (by omega) ?_
          refine And.intro (show 0 ≤ w ∧ w < 14 by omega) ?_
          show xa_C xm_I A h0 _ 294 [(2, 60, 0, 0, 0), (0, 0, 0, 9, M1 64 w)] (xa_up (xa_up (xa_up (xa_up (xa_up (xa_up M1 104 (M1 60 68) (M1 61 w)) 60 68 ((M1 60 68) + 1)) 104 ((M1 60 68) + 1) (M1 62 w)) 60 68 (((M1 60 68) + 1) + 1)) 104 (((M1 60 68) + 1) + 1) (M1 63 w)) 60 68 ((((M1 60 68) + 1) + 1) + 1)) _
          refine ct_putCell (n := (((M1 60 68) + 1) + 1) + 1) (by first | rfl | omega | (simp [xa_up]; done)) (by omega) (by omega) ?_
          refine And.intro (show 0 ≤ w ∧ w < 14 by omega) ?_
          show xa_C xm_I A h0 _ 294 [(2, 60, 0, 0, 0), (0, 0, 0, 9, M1 65 w)] (xa_up (xa_up (xa_up (xa_up (xa_up (xa_up (xa_up (xa_up M1 104 (M1 60 68) (M1 61 w)) 60 68 ((M1 60 68) + 1)) 104 ((M1 60 68) + 1) (M1 62 w)) 60 68 (((M1 60 68) + 1) + 1)) 104 (((M1 60 68) + 1) + 1) (M1 63 w)) 60 68 ((((M1 60 68) + 1) + 1) + 1)) 104 ((((M1 60 68) + 1) + 1) + 1) (M1 64 w)) 60 68 (((((M1 60 68) + 1) + 1) + 1) + 1)) _
          refine ct_putCell (n := ((((M1 60 68) + 1) + 1) + 1) + 1) (by first | rfl | omega | (simp [xa_up]; done)) (by omega) (by omega) ?_
          show Q 41 [(2, (0, 0, 1, 15, w + 1)), (0, (2, 60, 0, 0, 0))] [] (xa_up (xa_up (xa_up (xa_up (xa_up (xa_up (xa_up (xa_up (xa_up (xa_up M1 104 (M1 60 68) (M1 61 w)) 60 68 ((M1 60 68) + 1)) 104 ((M1 60 68) + 1) (M1 62 w)) 60 68 (((M1 60 68) + 1) + 1)) 104 (((M1 60 68) + 1) + 1) (M1 63 w)) 60 68 ((((M1 60 68) + 1) + 1) + 1)) 104 ((((M1 60 68) + 1) + 1) + 1) (M1 64 w)) 60 68 (((((M1 60 68) + 1) + 1) + 1) + 1)) 104 (((((M1 60 68) + 1) + 1) + 1) + 1) (M1 65 w)) 60 68 ((((((M1 60 68) + 1) + 1) + 1) + 1) + 1))
          refine hgo.2.1 41 _ [(2, (0, 0, 0, 14, w + 1)), (0, (2, 60, 0, 0, 0))] _ _ (xa_subI rfl rfl (fun _ _ _ _ => by omega) (xa_subR rfl xa_sub0)) ?_
          exact ih (w + 1) (xa_up (xa_up (xa_up (xa_up (xa_up (xa_up (xa_up (xa_up (xa_up (xa_up M1 104 (M1 60 68) (M1 61 w)) 60 68 ((M1 60 68) + 1)) 104 ((M1 60 68) + 1) (M1 62 w)) 60 68 (((M1 60 68) + 1) + 1)) 104 (((M1 60 68) + 1) + 1) (M1 63 w)) 60 68 ((((M1 60 68) + 1) + 1) + 1)) 104 ((((M1 60 68) + 1) + 1) + 1) (M1 64 w)) 60 68 (((((M1 60 68) + 1) + 1) + 1) + 1)) 104 (((((M1 60 68) + 1) + 1) + 1) + 1) (M1 65 w)) 60 68 ((((((M1 60 68) + 1) + 1) + 1) + 1) + 1)) (by omega) (by omega) (by rw [xa_up_hit (by omega)]; omega) ⟨fun q j hn h4 h5 => by
            rw [xa_up_ne (by omega), xa_up_ne (by omega), xa_up_ne (by omega), xa_up_ne (by omega), xa_up_ne (by omega), xa_up_ne (by omega), xa_up_ne (by omega), xa_up_ne (by omega), xa_up_ne (by omega), xa_up_ne (by omega)]
            exact hk.1 q j hn h4 h5,
          fun j hj => by
            rw [xa_up_ne (by omega), xa_up_ne (by omega), xa_up_ne (by omega), xa_up_ne (by omega), xa_up_ne (by omega), xa_up_ne (by omega), xa_up_ne (by omega), xa_up_ne (by omega), xa_up_ne (by omega), xa_up_ne (by omega)]
            exact hk.2.1 j hj,
          fun j hj => by
            rw [xa_up_ne (by omega), xa_up_ne (by omega), xa_up_ne (by omega), xa_up_ne (by omega), xa_up_ne (by omega), xa_up_ne (by omega), xa_up_ne (by omega), xa_up_ne (by omega), xa_up_ne (by omega), xa_up_ne (by omega)]
            exact hk.2.2.1 j hj,
          by
            rw [xa_up_ne (by omega), xa_up_ne (by omega), xa_up_ne (by omega), xa_up_ne (by omega), xa_up_ne (by omega), xa_up_ne (by omega), xa_up_ne (by omega), xa_up_ne (by omega), xa_up_ne (by omega), xa_up_ne (by omega)]
            exact hk.2.2.2.1,
          fun y y0 y1 => by
            by_cases e : y = w
            · rw [e]
              exact ⟨by
                rw [xa_up_ne (by omega), xa_up_ne (by omega), xa_up_ne (by omega), xa_up_ne (by omega), xa_up_ne (by omega), xa_up_ne (by omega), xa_up_ne (by omega), xa_up_ne (by omega), xa_up_ne (by omega), xa_up_hit (by omega)]
                omega, by
                rw [xa_up_ne (by omega), xa_up_ne (by omega), xa_up_ne (by omega), xa_up_ne (by omega), xa_up_ne (by omega), xa_up_ne (by omega), xa_up_ne (by omega), xa_up_hit (by omega)]
                omega, by
                rw [xa_up_ne (by omega), xa_up_ne (by omega), xa_up_ne (by omega), xa_up_ne (by omega), xa_up_ne (by omega), xa_up_hit (by omega)]
                omega, by
                rw [xa_up_ne (by omega), xa_up_ne (by omega), xa_up_ne (by omega), xa_up_hit (by omega)]
                omega, by
                rw [xa_up_ne (by omega), xa_up_hit (by omega)]
                omega⟩
            · have f := hk.2.2.2.2.1 y y0 (by omega)
              exact ⟨by
                rw [xa_up_ne (by omega), xa_up_ne (by omega), xa_up_ne (by omega), xa_up_ne (by omega), xa_up_ne (by omega), xa_up_ne (by omega), xa_up_ne (by omega), xa_up_ne (by omega), xa_up_ne (by omega), xa_up_ne (by omega)]
                exact f.1, by
                rw [xa_up_ne (by omega), xa_up_ne (by omega), xa_up_ne (by omega), xa_up_ne (by omega), xa_up_ne (by omega), xa_up_ne (by omega), xa_up_ne (by omega), xa_up_ne (by omega), xa_up_ne (by omega), xa_up_ne (by omega)]
                exact f.2.1, by
                rw [xa_up_ne (by omega), xa_up_ne (by omega), xa_up_ne (by omega), xa_up_ne (by omega), xa_up_ne (by omega), xa_up_ne (by omega), xa_up_ne (by omega), xa_up_ne (by omega), xa_up_ne (by omega), xa_up_ne (by omega)]
                exact f.2.2.1, by
                rw [xa_up_ne (by omega), xa_up_ne (by omega), xa_up_ne (by omega), xa_up_ne (by omega), xa_up_ne (by omega), xa_up_ne (by omega), xa_up_ne (by omega), xa_up_ne (by omega), xa_up_ne (by omega), xa_up_ne (by omega)]
                exact f.2.2.2.1, by
                rw [xa_up_ne (by omega), xa_up_ne (by omega), xa_up_ne (by omega), xa_up_ne (by omega), xa_up_ne (by omega), xa_up_ne (by omega), xa_up_ne (by omega), xa_up_ne (by omega), xa_up_ne (by omega), xa_up_ne (by omega)]
                exact f.2.2.2.2⟩,
          fun h => by
            rw [xa_up_ne (by omega), xa_up_ne (by omega), xa_up_ne (by omega), xa_up_ne (by omega), xa_up_ne (by omega), xa_up_ne (by omega), xa_up_ne (by omega), xa_up_ne (by omega), xa_up_ne (by omega), xa_up_ne (by omega)]
            exact hk.2.2.2.2.2.1 (by omega),
          fun y y0 y1 => by
            have f := hk.2.2.2.2.2.2.1 y y0 y1
            exact ⟨by
              rw [xa_up_ne (by omega), xa_up_ne (by omega), xa_up_ne (by omega), xa_up_ne (by omega), xa_up_ne (by omega), xa_up_ne (by omega), xa_up_ne (by omega), xa_up_ne (by omega), xa_up_ne (by omega), xa_up_ne (by omega)]
              exact f.1, by
              rw [xa_up_ne (by omega), xa_up_ne (by omega), xa_up_ne (by omega), xa_up_ne (by omega), xa_up_ne (by omega), xa_up_ne (by omega), xa_up_ne (by omega), xa_up_ne (by omega), xa_up_ne (by omega), xa_up_ne (by omega)]
              exact f.2⟩,
          fun y y0 y1 => by
            have f := hk.2.2.2.2.2.2.2 y y0 y1
            exact ⟨by
              rw [xa_up_ne (by omega), xa_up_ne (by omega), xa_up_ne (by omega), xa_up_ne (by omega), xa_up_ne (by omega), xa_up_ne (by omega), xa_up_ne (by omega), xa_up_ne (by omega), xa_up_ne (by omega), xa_up_ne (by omega)]
              exact f.1, by
              rw [xa_up_ne (by omega), xa_up_ne (by omega), xa_up_ne (by omega), xa_up_ne (by omega), xa_up_ne (by omega), xa_up_ne (by omega), xa_up_ne (by omega), xa_up_ne (by omega), xa_up_ne (by omega), xa_up_ne (by omega)]
              exact f.2⟩⟩ (by omega)
    intro M0 e hk
    exact hgo.2.1 41 _ [(2, (0, 0, 0, 14, 0)), (0, (2, 60, 0, 0, 0))] _ _ (xa_subI rfl rfl (fun _ _ _ _ => by omega) (xa_subR rfl xa_sub0)) (loop1 15 0 M0 (by omega) (by omega) (by omega) hk (by omega))
  refine hgo.1 14 [16] 0 _ _ _ ?_
  show xa_C xm_I A h0 _ 214 [(0, 0, (-2147483648), 2147483647, a), (0, 0, 0, 0, 0), (0, 0, 3, 3, 3)] (xa_up M 60 21 0) _
  refine ct_in ?_ ?_
  · intro (i1 : 0 ≤ a ∧ a ≤ 3)
    show Q 16 [(0, (2, 60, 0, 0, 0)), (1, (0, 0, (-2147483648), 2147483647, a))] [] (xa_up M 60 21 0)
    refine hgo.2.1 16 _ [(0, (2, 60, 0, 0, 0)), (1, (0, 0, 0, 3, a))] _ _ (xa_subR rfl (xa_subI rfl rfl (fun _ _ _ _ => by omega) xa_sub0)) ?_
    refine hgo.1 21 [41] 16 _ _ _ ?_
    show xa_C xm_I A h0 _ 294 [(2, 60, 0, 0, 0), (0, 0, 0, 14, M 60 0)] (xa_up (xa_up (xa_up M 60 21 0) 105 a 1) 60 68 (124 * a)) _
    refine ct_putCell (n := 124 * a) (by first | rfl | omega | (simp [xa_up]; done)) (by omega) (by omega) ?_
    show Q 41 [(2, (0, 0, 0, 0, 0)), (0, (2, 60, 0, 0, 0)), (1, (0, 0, 0, 3, a))] [] (xa_up (xa_up (xa_up (xa_up (xa_up M 60 21 0) 105 a 1) 60 68 (124 * a)) 104 (124 * a) (M 60 0)) 60 68 ((124 * a) + 1))
    refine hgo.2.1 41 _ [(2, (0, 0, 0, 14, 0)), (0, (2, 60, 0, 0, 0))] _ _ (xa_subI rfl rfl (fun _ _ _ _ => by omega) (xa_subR rfl xa_sub0)) ?_
    exact key (by omega) (by omega) (xa_up (xa_up (xa_up (xa_up (xa_up M 60 21 0) 105 a 1) 60 68 (124 * a)) 104 (124 * a) (M 60 0)) 60 68 ((124 * a) + 1)) (by rw [xa_up_hit (by omega)]) ⟨fun q j hn h4 h5 => by
      rw [xa_up_ne (by omega), xa_up_ne (by omega), xa_up_ne (by omega), xa_up_ne (by omega), xa_up_ne (by omega)],
    fun j hj => by
      rw [xa_up_ne (by omega), xa_up_ne (by omega), xa_up_ne (by omega), xa_up_ne (by omega), xa_up_ne (by omega)],
    fun j hj => by
      rw [xa_up_ne (by omega), xa_up_ne (by omega), xa_up_ne (by omega), xa_up_ne (by omega), xa_up_ne (by omega)],
    by
      rw [xa_up_ne (by omega), xa_up_hit (by omega)],
    fun y y0 y1 => by omega,
    fun h => by omega,
    fun y y0 y1 => by omega,
    fun y y0 y1 => by omega⟩
  · intro (i1 : ¬ (0 ≤ a ∧ a ≤ 3))
    show post (some (0, 0, 0, 0, 0)) (xa_up M 60 21 0)
    exact k 0 _ ((if_neg (by omega)).symm) (xm_Inv_cor (xm_cor_f (by omega) xm_cor_r) hI)
def iv_kf (v : Int) (Y : y_X) : Bool := match Y with
  | (r :: _, L, st) => bif Nat.beq r.1 26 then (decide (v = 1) && (st.isEmpty && ((match y_find L 0 with
      | some v => Nat.beq v.1 2 && decide (v.2.1 = 0)
      | none => false) && (match y_find L 1 with
      | some v => Nat.beq v.1 0 && (decide (0 ≤ v.2.1) && decide (v.2.2.1 ≤ 3))
      | none => false))))
    else (match st with
      | [w] => Nat.beq r.2.2.1 40 && (Nat.beq w.1.1 0 && (decide (v = w.1.2.1) && decide (w.1.2.2.1 = v)))
      | _ => false)
  | _ => false
def iv_kB (lo hi v : Int) : Bool := match y_run y_Rc s_ft s_mi (y_Kc 59) [] iv_kt 3 1000 [] (iv_kt, [(0, (2, 0, 0, 0, 0, 0, 0)), (1, (0, lo, hi, 0, 0, 0, 0))], []) with
  | some ls => ls.all (iv_kf v)
  | none => false
set_option maxRecDepth 100000 in
theorem iv_kB_ok : iv_kB (-2147483648) (-1) 0 = true ∧ iv_kB 4 2147483647 0 = true ∧ iv_kB 0 3 1 = true := by decide +kernel
theorem iv_keepXF (A : Nat → Nat) (h : g_H) (m : Int32) (hI : iv_inv A h) {l9 u9 v9 : Int} (hb : iv_kB l9 u9 v9 = true) (hm : l9 ≤ m.toInt ∧ m.toInt ≤ u9) (h01 : v9 = 0 ∨ v9 = 1) : g_run 60 200 [.ref (A 0), .int m] h 10 133 (fun r h' => r = some (.int (Int32.ofInt v9)) ∧ iv_inv A h') := by
  obtain ⟨q1, q2, q3, q4, q5⟩ := s_mi_ok 200 (3, 2, false, 10, 133, 11) (by decide +kernel)
  obtain ⟨c1, c2⟩ := s_codes_ok 200 (3, 2, false, 10, 133, 11) (by decide +kernel)
  rw [show s_codes.getD 200 [] = s_c_200 from rfl] at c1 c2
  have q3 : g_rt 200 = some .boolean := q3
  refine ⟨q1, by rw [q2]; exact (show 2 ≤ 3 by decide), ?_⟩
  rw [q5, q2, q4]
  intro P hend hcl
  obtain ⟨⟨W, β, hH, hW⟩, M, hM, hInv⟩ := hI
  have ret : ∀ {pc len kd a k : Nat} {v0 : Int} {ins : Instr} {Ls : g_L} {x : Int32} {c s : Nat} {h' : g_H}, s_okI (g_by 200) 11 (pc, len, 40, kd, a, k, v0, ins) = true → (x = 0 ∨ x = 1) → x = Int32.ofInt v9 → c ≤ 10 → s ≤ 133 → iv_inv A h' → P (pc, Ls, [.int x], c, s, h') := by
    intro pc len kd a k v0 ins Ls x c s h' hok hx hv hc hs hI'
    exact hend _ ⟨hc, hs, Or.inl ⟨x, .boolean, iv_ireturn hok, q3, by rcases hx with rfl | rfl <;> rfl, rfl, by rw [hv], hI'⟩⟩
  have ct2 : ∀ r ∈ iv_kt, s_okI (g_by 200) 11 r = true := t_stop_ok c2
  unfold iv_kB at hb
  split at hb
  next ls el =>
    obtain ⟨k1, k2⟩ := y_run_ok (φ := iv_ct h) (P := P) hcl y_Rc_ok s_ft_ok s_mi_ok (y_Kc_ok 59) ct2 1000 [] _ ls el ct2 (fun g hg => by cases hg)
    have key := k2 W β h (lv_args 0 [.ref (A 0), .int m]) [] hH (fun q hq => ?_) trivial (fun g hg => by cases hg) (fun Y hY => ?_)
    · rw [show s_pc iv_kt = 0 from rfl] at key
      exact key
    · have hq : q ∈ [((0, (2, 0, 0, 0, 0, 0, 0)) : Nat × y_V), (1, (0, l9, u9, 0, 0, 0, 0))] := hq
      simp only [List.mem_cons, List.not_mem_nil, or_false] at hq
      have b1 := Int32.le_toInt m
      have b2 := Int32.toInt_lt m
      rcases hq with rfl | rfl
      · exact iv_gL (by decide) (List.mem_cons_self) ⟨0, A 0, rfl, hW 0 0 rfl⟩
      · exact iv_gL (show (1 : Nat) < 200000 by decide) (List.mem_cons_of_mem _ List.mem_cons_self) ⟨m, rfl, hm.1, hm.2, fun h => absurd rfl h, fun h => absurd rfl h⟩
    · have hbY := List.all_eq_true.mp hb Y hY
      have hYI := k1 Y hY
      intro W' β' h1 Ls sts hWW hb9 hH1 hL1 hS1
      obtain ⟨c9, L, st⟩ := Y
      cases c9 with
      | nil => cases hbY
      | cons r t =>
        unfold iv_kf at hbY
        dsimp only at hbY
        cases e26 : Nat.beq r.1 26
        · rw [e26, cond_false] at hbY
          split at hbY
          next v =>
            simp only [Bool.and_eq_true, Nat.beq_eq, decide_eq_true_eq] at hbY
            obtain ⟨r1, v1, v2, v3⟩ := hbY
            cases sts with
            | nil => exact hS1.elim
            | cons x xs =>
              cases xs with
              | cons _ _ => exact hS1.2.elim
              | nil =>
                obtain ⟨⟨k, lo, hi, rq⟩, cp⟩ := v
                have v1 : k = 0 := v1
                have v2 : v9 = lo := v2
                have v3 : hi = v9 := v3
                subst v1
                obtain ⟨⟨n, rfl, n1, n2, -⟩, -⟩ := hS1.1
                have hn : n = 0 ∨ n = 1 := by
                  rcases (show n.toInt = 0 ∨ n.toInt = 1 by omega) with h | h
                  · exact Or.inl (Int32.toInt_inj.mp (h.trans (show (0 : Int32).toInt = 0 from rfl).symm))
                  · exact Or.inr (Int32.toInt_inj.mp (h.trans (show (1 : Int32).toInt = 1 from rfl).symm))
                have hnv : n = Int32.ofInt v9 := by
                  rw [← show n.toInt = v9 by omega, Int32.ofInt_toInt]
                have hrI := hYI r List.mem_cons_self
                obtain ⟨pc, len, q9, kd, a, k9, v0, ins⟩ := r
                have r1 : q9 = 40 := r1
                subst r1
                exact ret hrI hn hnv (by decide) (by decide) (iv_back hW hM hInv hWW hH1)
          next => cases hbY
        · rw [e26, cond_true] at hbY
          rw [Nat.beq_eq] at e26
          simp only [Bool.and_eq_true, decide_eq_true_eq, List.isEmpty_iff] at hbY
          obtain ⟨hv1, rfl, f0, f1⟩ := hbY
          cases sts with
          | cons _ _ => exact hS1.elim
          | nil =>
            show P (r.1, Ls, [], 0, 0, h1)
            rw [e26]
            split at f0
            next v0 ev0 =>
             split at f1
             next v ev =>
              simp only [Bool.and_eq_true, Nat.beq_eq, decide_eq_true_eq] at f0 f1
              obtain ⟨v1, v2, v3⟩ := f1
              obtain ⟨x0, a0, g0⟩ := hL1 _ (y_find_in ev0)
              obtain ⟨k0, r0, t0⟩ := v0
              have w1 : k0 = 2 := f0.1
              have w2 : r0 = 0 := f0.2
              subst w1 w2
              obtain ⟨x1, a1, g1⟩ := hL1 _ (y_find_in ev)
              have a0 := a0.1 (show 0 < 200000 by decide)
              have a1 := a1.1 (show 1 < 200000 by decide)
              obtain ⟨k, lo, hi, rq⟩ := v
              have v1 : k = 0 := v1
              have v2 : 0 ≤ lo := v2
              have v3 : hi ≤ 3 := v3
              subst v1
              obtain ⟨i, rfl, i1, i2, -⟩ := g1
              obtain ⟨qx, ax, rfl, hqx⟩ := g0
              have hqx : W'[qx]? = some (ax, 0) := hqx
              -- new, dup, its constructor
              refine iv_new (q9 := 0) hcl (c2 _ (iv_in (c := []) (pc := 26) rfl)) (by decide) (by decide) (fun z => ?_)
              refine iv_dup hcl (c2 _ (iv_in (c := []) (pc := 29) rfl)) rfl ?_
              refine iv_special (as := []) hcl (c2 _ (iv_in (c := []) (pc := 30) rfl)) (Or.inr rfl) rfl (by exact (show 1 ≤ 8 by decide)) (mc := 9) (ms := 122) (by decide) (by decide) ?_
              refine g_run_mono (iv_init (d := 58) (a := z) (h := h1) (f := fun j => defaultValue ((parseFieldDescriptor (g_fd 1 j).1).getD .int))) (fun r9 h2 hp => ?_)
              obtain ⟨rfl, hbl⟩ := hp
              obtain ⟨ws, hH2, hz⟩ := iv_bl_H hH1 hbl (by decide +kernel) (by decide +kernel)
              have hW2 : W' <+: W' ++ ws := ⟨ws, rfl⟩
              have hzW : (W' ++ ws)[W'.length]? = some (z, 1) := by
                rw [List.getElem?_append_right (Nat.le_refl _), Nat.sub_self]
                exact hz
              have up : ∀ {q a r : Nat}, W'[q]? = some (a, r) → (W' ++ ws)[q]? = some (a, r) := fun {q a r} hq => by
                rw [List.getElem?_append_left (List.getElem?_eq_some_iff.mp hq).1]
                exact hq
              refine hcl _ ⟨_, _, iv_dec (c2 _ (iv_in (c := []) (pc := 33) rfl)) (by decide) (by decide), Or.inl (Or.inr (Or.inr (Or.inl ⟨2, _, _, _, rfl, rfl, rfl, by decide, ?_⟩)))⟩
              have m0 : (0, Value.ref ax) ∈ g_st1 2 (.ref z) Ls := iv_st2 a0 (by decide) rfl
              have m1 : (1, Value.int i) ∈ g_st1 2 (.ref z) Ls := iv_st2 a1 (by decide) rfl
              have m2 : (2, Value.ref z) ∈ g_st1 2 (.ref z) Ls := List.mem_cons_self
              refine hcl _ ⟨_, _, iv_dec (c2 _ (iv_in (c := []) (pc := 34) rfl)) (by decide) (by decide), Or.inl (Or.inr (Or.inl ⟨0, _, _, rfl, m0, rfl, ?_⟩))⟩
              obtain ⟨ro, fx, e1, e2, e3⟩ := hH2.2.1 qx ax 0 (up hqx)
              cases e1
              have tx := fun j (hj : j < 12) => (e3 j hj).resolve_left (fun h => by cases h.1)
              refine iv_getfield hcl (c2 _ (iv_in (c := []) (pc := 35) rfl)) (Or.inl rfl) (q := qx) (n := 12) (f := fx) e2 (by decide) ?_
              obtain ⟨qb, ab, eb, hqb⟩ := tx 1 (by decide)
              have hqb : (W' ++ ws)[qb]? = some (ab, 13) := hqb
              rw [eb]
              refine hcl _ ⟨_, _, iv_dec (c2 _ (iv_in (c := []) (pc := 38) rfl)) (by decide) (by decide), Or.inl (Or.inr (Or.inl ⟨1, _, _, rfl, m1, rfl, ?_⟩))⟩
              refine hcl _ ⟨_, _, iv_dec (c2 _ (iv_in (c := []) (pc := 39) rfl)) (by decide) (by decide), Or.inl (Or.inr (Or.inl ⟨2, _, _, rfl, m2, rfl, ?_⟩))⟩
              obtain ⟨ro, fb, e4, e5, e6⟩ := hH2.2.1 qb ab 13 hqb
              cases e4
              obtain ⟨ro, fz, e7, e8, e9⟩ := hH2.2.1 W'.length z 1 hzW
              cases e7
              refine iv_aastore hcl (c2 _ (iv_in (c := []) (pc := 40) rfl)) (q := qb) (n := 4) (f := fb) e5 (qk := W'.length) e8 (fun hv => ?_) ?_
              · rcases hv with hv | hv
                · have := Int32.lt_iff_toInt_lt.mp hv
                  have h0 : (0 : Int32).toInt = 0 := rfl
                  omega
                · have : (i.toNatClampNeg : Int) = i.toInt := by
                    rw [← Int32.toNat_toInt]
                    omega
                  omega
              have hH3 := y_H_set (f' := g_up fb i.toNatClampNeg (.ref z)) hH2 hqb rfl e5 (fun p hp hpr => by
                have hp' : p = (300001, 8, 5) := by
                  have : p ∈ [(300001, 8, 5)] := hp
                  simpa using this
                subst hp'
                cases hpr) (fun j hj => by
                unfold g_up
                split
                · exact Or.inr ⟨W'.length, z, rfl, hzW⟩
                · exact (e6 j hj).resolve_left (fun h => by cases h.1))
              refine hcl _ ⟨_, _, iv_dec (c2 _ (iv_in (c := []) (pc := 41) rfl)) (by decide) (by decide), Or.inl (Or.inr (Or.inl ⟨2, _, _, rfl, m2, rfl, ?_⟩))⟩
              refine hcl _ ⟨_, _, iv_dec (c2 _ (iv_in (c := []) (pc := 42) rfl)) (by decide) (by decide), Or.inl (Or.inr (Or.inl ⟨0, _, _, rfl, m0, rfl, ?_⟩))⟩
              obtain ⟨ro, fx3, e10, e11, e12⟩ := hH3.2.1 qx ax 0 (up hqx)
              cases e10
              refine iv_getfield hcl (c2 _ (iv_in (c := []) (pc := 43) rfl)) (Or.inl rfl) (q := qx) (n := 12) (f := fx3) e11 (by decide) ?_
              have g0 := (e12 0 (by decide)).resolve_left (fun h => by cases h.1)
              obtain ⟨ql, al, el2, hql⟩ := g0
              have hql : (W' ++ ws)[ql]? = some (al, 1) := hql
              rw [el2]
              obtain ⟨ro, fz3, e13, e14, e15⟩ := hH3.2.1 W'.length z 1 hzW
              cases e13
              obtain ⟨outs, eo⟩ := Option.isSome_iff_exists.mp iv_kcp
              have h201 : (g_me 201).2.1 = 1 := (s_mi_ok 201 _ (show s_mi[201]? = some (2, 0, false, 0, 0, 1) by decide +kernel)).2.2.2.2
              refine iv_virt (as := [.ref al]) (rest := []) hcl (c2 _ (iv_in (c := []) (pc := 46) rfl)) (q := W'.length) (by rw [h201]; exact e14) rfl (by decide) (mc := 0) (ms := 0) (by decide) (by decide) ?_
              refine g_run_rt (y_Kc_ok 59 201 _ [] outs eo (iv_ct h) _ β' _ [.ref z, .ref al] hH3 ⟨⟨W'.length, z, rfl, hzW⟩, ⟨ql, al, rfl, hql⟩, trivial⟩ (fun q hq => by cases hq) (fun _ h4 => iv_inv A h4) (fun out _ W3 β3 h4 x hW3 _ _ hH4 _ _ _ => iv_back hW hM hInv ((hWW.trans hW2).trans hW3) hH4)) (fun r4 h4 hI4 hrt => ?_)
              have hr4 : r4 = none := by
                have h3 := (s_mi_ok 201 _ (show s_mi[201]? = some (2, 0, false, 0, 0, 1) by decide +kernel)).2.2.1
                have h3 : g_rt 201 = none := h3
                rw [h3] at hrt
                exact hrt
              subst hr4
              refine hcl _ ⟨_, _, iv_dec (c2 _ (iv_in (c := []) (pc := 49) rfl)) (by decide) (by decide), Or.inl (Or.inl ⟨_, rfl, ?_⟩)⟩
              exact ret (c2 _ (iv_in (c := []) (pc := 50) rfl)) (Or.inr rfl) (by rw [hv1]) (by decide) (by decide) hI4
             next => cases f1
            next => cases f0
  next => cases hb
theorem iv_keepX2 (A : Nat → Nat) (h : g_H) (m : Int32) (hI : iv_inv A h) : g_run 60 200 [.ref (A 0), .int m] h 10 133 (fun r h' => r = some (.int (Int32.ofInt (iv_keep m.toInt))) ∧ iv_inv A h') := by
  obtain ⟨b1, b2, b3⟩ := iv_kB_ok
  have p1 := Int32.le_toInt m
  have q1 := Int32.toInt_lt m
  by_cases c1 : m.toInt < 0
  · rw [show iv_keep m.toInt = 0 from if_neg (by omega)]
    exact iv_keepXF A h m hI b1 (by omega) (by omega)
  by_cases c2 : 3 < m.toInt
  · rw [show iv_keep m.toInt = 0 from if_neg (by omega)]
    exact iv_keepXF A h m hI b2 (by omega) (by omega)
  rw [show iv_keep m.toInt = 1 from if_pos (by omega)]
  exact iv_keepXF A h m hI b3 (by omega) (by omega)
theorem iv_keepM (A : Nat → Nat) (h : g_H) (m1 : Int32) (hI : iv_inv A h) : g_run 60 293 [.ref (A 60), .int m1] h 0 0 (fun r h' => r = some (.int (Int32.ofInt (iv_keep m1.toInt))) ∧ iv_inv A h') := by
  refine g_run_mono (iv_callM2 (d := 60) hI (vs := [(2, 60, 0, 0, 0), (0, 0, -2147483648, 2147483647, m1.toInt)]) (xs := [.ref (A 60), .int m1]) ⟨rfl, iv_i m1, trivial⟩ (fun o => ∃ r, r = iv_keep m1.toInt ∧ o = some (0, 0, r, r, r)) (fun M hM => ms_keepF hM (fun r M1 hr h => ⟨⟨r, hr, rfl⟩, h⟩))) (fun r h' hp => ⟨?_, hp.2⟩)
  obtain ⟨⟨o, ⟨r, hr, rfl⟩, y, e, z, hz, hz2, -⟩, -⟩ := hp
  rw [e, hz, ← hr, ← hz2, Int32.ofInt_toInt]
theorem iv_cmp_pair (A : Nat → Nat) : iv_pair (iv_inv A) A 200 293 [0] true false := by
  intro h as hI hs
  obtain ⟨m1, ys, rfl, -, hs⟩ := iv_spc hs
  obtain rfl := iv_sp0 hs
  refine ⟨10, 133, by decide, by decide, g_run_mono (iv_keepX2 A h m1 hI) (fun r1 h1 hp => ?_)⟩
  refine ⟨_, hp.1, iv_sh_ok hp.2, g_run_mono (iv_keepM A h1 m1 hp.2) (fun r2 h2 hp2 => ?_)⟩
  exact ⟨⟨_, hp2.1, fun _ => rfl⟩, hp2.2⟩
