set_option maxRecDepth 20000
/-- a pair of calls of which just the answer and the row's size are told -/
theorem rz_armU {A : Nat → Nat} {jx jm : Nat} {spec : List Nat} {cmp : Bool} (H : ∀ (W : y_W) (b : Bool) (h : g_H) (as : List Value) (M : xa_M), iv_JW A W b h → xa_H xm_I A M h h → xm_Inv M → iv_sp spec as → lm_R b (xj (iv_num h) M) → iv_num h 48 1 = M 60 20 → ∃ (vs ms : List xa_V) (Px Pm : Int → Int → Prop), xa_gS A vs (.ref (A 0) :: as) ∧ xa_gS A ms (.ref (A 60) :: as) ∧ (∀ r r' s s', Px r s → Pm r' s' → (cmp = true → r = r') ∧ s = s') ∧ xa_C (xl_I b) A h 60 jx vs (iv_num h) (fun o M1 => (∃ lo hi n, o = some (0, 0, lo, hi, n) ∧ Px n (M1 48 1)) ∧ ∀ q j, lm_C q j → q < 60 → M1 q j = iv_num h q j) ∧ ∀ h1, xa_C xm_I A h1 60 jm ms M (fun o M2 => (∃ lo hi n, o = some (0, 0, lo, hi, n) ∧ Pm n (M2 60 20)) ∧ xk_U M M2 ∧ xm_Inv M2)) : iv_pair (rz_J A) A jx jm spec cmp false := rz_armV (fun W b h as M hJ hM hInv hs hR hz => by
  obtain ⟨vs, ms, Px, Pm, g1, g2, g0, g3, g4⟩ := H W b h as M hJ hM hInv hs hR hz
  refine ⟨vs, ms, fun n M1 => Px n (M1 48 1) ∧ ∀ q j, lm_C q j → q < 60 → M1 q j = iv_num h q j, fun n M2 => Pm n (M2 60 20) ∧ xk_U M M2, g1, g2, fun n n' M1 M2 h1 h2 => ?_, xa_C_mono g3 (fun o M1 hp => ?_), fun h1 => xa_C_mono (g4 h1) (fun o M2 hp => ?_)⟩
  · obtain ⟨x1, hk⟩ := h1
    obtain ⟨x2, hu⟩ := h2
    obtain ⟨e1, e2⟩ := g0 _ _ _ _ x1 x2
    refine ⟨e1, fun x => hu 104 x rfl, fun x => hu 105 x rfl, lm_R_k (fun q j hC => ?_) hR, e2⟩
    unfold xj
    by_cases hq : q < 60
    · rw [if_pos hq, if_pos hq]
      exact hk q j hC hq
    · rw [if_neg hq, if_neg hq]
      refine hu q j ?_
      unfold lm_C at hC
      unfold xk_B
      simp only [Bool.or_eq_true, Bool.and_eq_true, Nat.beq_eq, decide_eq_true_eq]
      omega
  · obtain ⟨⟨lo, hi, n, e, hn⟩, hk⟩ := hp
    exact ⟨lo, hi, n, e, hn, hk⟩
  · obtain ⟨⟨lo, hi, n, e, hn⟩, hu, hI⟩ := hp
    exact ⟨⟨lo, hi, n, e, hn, hu⟩, hI⟩)
theorem rx_73 {b : Bool} {A : Nat → Nat} {h0 : g_H} {d : Nat} {M : xa_M} {post : Option xa_V → xa_M → Prop} {l1 u1 x1 : Int} {F : Int → Int} (hF : (1 ≤ x1 ∧ x1 ≤ 9) → wy_L (M 1 10) (fun i => M 5 (M 7 i)) (fun i => M 5 (M 8 i)) F x1 ∧ 0 < F 0) (hn : 0 ≤ M 1 10 ∧ M 1 10 ≤ 16) (hr : ∀ k, 0 ≤ k → k < M 1 10 → (0 ≤ M 7 k ∧ M 7 k < 14) ∧ (0 ≤ M 8 k ∧ M 8 k < 14)) (ha : ∀ w, 0 ≤ w → w < 14 → 0 ≤ M 5 w ∧ M 5 w < 10) (hw9 : 0 ≤ M 1 9 ∧ M 1 9 ≤ 14) (k : ∀ (r : Int) (M1 : xa_M), (¬ (1 ≤ x1 ∧ x1 ≤ 9) ∧ r = -1) ∨ ((1 ≤ x1 ∧ x1 ≤ 9) ∧ ((F 0 < 99 ∧ r = F 0) ∨ (99 ≤ F 0 ∧ r = -2))) → (∀ q j, ¬ q = 48 → ¬ q = 49 → ¬ (15 ≤ q ∧ q ≤ 24) → M1 q j = M q j) → rz_c (0 ≤ r) (M 48 1) (M1 48 1) r → post (some (0, 0, (-2147483648), 2147483647, r)) M1) : xa_C (xl_I b) A h0 (d + 6) 73 [(2, 0, 0, 0, 0), (0, 0, l1, u1, x1)] M post := by
  refine xa_C_wk ?_
  refine xa_C_arg [(2, 0, 0, 0, 0), (0, 0, (-2147483648), 2147483647, x1)] (xa_svR (xa_svI (fun _ _ _ _ => by omega) xa_sv0)) ?_
  refine xa_meth (Q0 := (2, 1, false, 0, 0, 11)) (by decide +kernel) ⟨rfl, rfl⟩ (full := s_c_73) rfl rfl ?_
  intro hM hv Q hgo
  refine hgo.1 28 [] 0 _ _ _ ?_
  show xa_C (xl_I b) A h0 _ 14 [(0, 0, (-2147483648), 2147483647, x1)] M _
  refine cx_14 ?_ ?_ ?_
  · intro (i1 : x1 < 0)
    show xa_wk post (some (0, 0, (-1), (-1), (-1))) M
    exact xa_wkI (-1) rfl (fun _ _ => by omega) (k _ _ (Or.inl ⟨by omega, rfl⟩) (fun _ _ _ _ _ => rfl) (by unfold rz_c; omega))
  · intro (i2 : 0 ≤ x1) (i3 : 10 ≤ x1)
    show xa_wk post (some (0, 0, (-1), (-1), (-1))) M
    exact xa_wkI (-1) rfl (fun _ _ => by omega) (k _ _ (Or.inl ⟨by omega, rfl⟩) (fun _ _ _ _ _ => rfl) (by unfold rz_c; omega))
  · intro (i4 : 0 ≤ x1) (i5 : x1 < 10)
    refine And.intro ?_ ?_
    · intro (c6 : ¬ x1 = 0)
      show xa_C (xl_I b) A h0 _ 74 [(2, 15, 0, 0, 0), (2, 1, 0, 0, 0), (0, 0, (-2147483648), 2147483647, x1)] M _
      refine cx_74w (X := x1) (F := F) (hF (by omega)).1 (by omega) hn hr ha hw9 (hF (by omega)).2 ?_
      intro r126 M125 (i7 : F 0 < 99 → r126 = 1 ∧ M125 16 4 = F 0) (i8 : 99 ≤ F 0 → r126 = 0) (i9 : ∀ q j, ¬ (15 ≤ q ∧ q ≤ 24) → M125 q j = M q j)
      have hFt : F 0 < 99 → F 0 ≤ 10 := fun h => ((hF (by omega)).1.1.2.2 0 (by decide) (by decide) h).1
      have hFp := (hF (by omega)).2
      refine And.intro ?_ ?_
      · intro (c10 : ¬ r126 = 0)
        show xa_C (xl_I b) A h0 _ 59 [(2, 48, 0, 0, 0)] M125 _
        refine cx_59_48 ?_
        show xa_C (xl_I b) A h0 _ 84 [(2, 15, 0, 0, 0), (2, 48, 0, 0, 0)] (xa_up M125 48 1 0) _
        have q16 : 0 ≤ (M125 16 4) ∧ (M125 16 4) ≤ 10 := by
          by_cases c : F 0 < 99
          · have := (i7 c).2
            omega
          · have := i8 (by omega)
            omega
        refine cx_84w (by show 0 ≤ (M125 16 4) ∧ (M125 16 4) ≤ 10; omega) (by first | rfl | exact xa_up_eq) ?_
        intro M127 (i11 : M127 48 1 = (M125 16 4)) (i12 : ∀ q j, ¬ q = 48 → ¬ q = 49 → M127 q j = (xa_up M125 48 1 0) q j)
        show xa_wk post (some (0, 0, (-2147483648), 2147483647, M127 48 1)) M127
        have h99 : F 0 < 99 := by
          by_cases c : F 0 < 99
          · exact c
          · have := i8 (by omega)
            omega
        have e16 := (i7 h99).2
        exact xa_wkI _ rfl (fun _ _ => by omega) (k _ _ (Or.inr ⟨by omega, Or.inl ⟨h99, by omega⟩⟩) (fun q j h1 h2 h3 => (i12 q j h1 h2).trans ((xa_up_ne (by omega)).trans (i9 q j h3))) (Or.inl ⟨by omega, rfl⟩))
      · intro (c10 : r126 = 0)
        show xa_wk post (some (0, 0, (-2), (-2), (-2))) M125
        have h99 : 99 ≤ F 0 := by
          by_cases c : F 0 < 99
          · have := (i7 c).1
            omega
          · omega
        exact xa_wkI (-2) rfl (fun _ _ => by omega) (k _ _ (Or.inr ⟨by omega, Or.inr ⟨h99, rfl⟩⟩) (fun q j h1 h2 h3 => i9 q j h3) (by have z := i9 48 1 (by omega); unfold rz_c; omega))
    · intro (c6 : x1 = 0)
      show xa_wk post (some (0, 0, (-1), (-1), (-1))) M
      exact xa_wkI (-1) rfl (fun _ _ => by omega) (k _ _ (Or.inl ⟨by omega, rfl⟩) (fun _ _ _ _ _ => rfl) (by unfold rz_c; omega))
theorem rm_way {A : Nat → Nat} {h0 : g_H} {d : Nat} {M : xa_M} {post : Option xa_V → xa_M → Prop} {l1 u1 : Int} {a : Int} (hI : xm_Inv M) (k : ∀ (lo hi r : Int) (M1 : xa_M), (¬ (1 ≤ a ∧ a ≤ 9) ∧ r = -1) ∨ ((1 ≤ a ∧ a ≤ 9) ∧ ∃ G : Int → Int, wy_L (M 60 6) (fun i => M 64 (M 66 i)) (fun i => M 64 (M 67 i)) G a ∧ 0 ≤ G 0 ∧ ((G 0 < 99 ∧ r = G 0) ∨ (99 ≤ G 0 ∧ r = -2))) → xm_cor M M1 → rz_c (0 ≤ r) (M 60 20) (M1 60 20) r → post (some (0, 0, lo, hi, r)) M1) : xa_C xm_I A h0 (d + 4) 235 [(2, 60, 0, 0, 0), (0, 0, l1, u1, a)] M post := by
  refine xa_C_arg [(2, 60, 0, 0, 0), (0, 0, (-2147483648), 2147483647, a)] (xa_svR (xa_svI (fun _ _ _ _ => by omega) xa_sv0)) ?_
  refine xa_meth (Q0 := (3, 1, false, 0, 0, 12)) (by decide +kernel) ⟨rfl, rfl⟩ (full := s_c_235) rfl rfl ?_
  intro hM hv Q hgo
  have loop0 : ∀ (r9 : Int), (∀ (lo hi : Int) (M1 : xa_M), xm_cor M M1 → M1 60 20 = r9 → post (some (0, 0, lo, hi, r9)) M1) → ∀ (n : Nat) (x2 : Int) (M1 : xa_M), 0 ≤ x2 ∧ x2 ≤ 10 → xm_cor M M1 → M1 60 20 = x2 → x2 ≤ r9 → M1 60 29 = r9 → 10 - x2 < (n : Int) → Q 35 [(2, (0, 0, 0, 10, x2)), (0, (2, 60, 0, 0, 0))] [] M1 := by
    intro r9 k9 n
    induction n with
    | zero => intro x2 M1 b2 hc h20 hx9 h29 hms; omega
    | succ n ih0 =>
      intro x2 M1 b2 hc h20 hx9 h29 hms0
      refine hgo.2.2 _ _ _ _ (fun hM1 _ => ?_)
      have b20 := xm_f20 hM1
      have b29 := xm_f29 hM1
      refine hgo.1 18 [35] 35 _ _ _ ?_
      refine And.intro ?_ ?_
      · intro (c1 : (M1 60 29) ≤ x2)
        show post (some (0, 0, 0, 10, M1 60 29)) M1
        rw [h29]
        exact k9 _ _ _ hc (by omega)
      · intro (c1 : x2 < (M1 60 29))
        refine And.intro (show 0 ≤ x2 ∧ x2 < 10 by omega) ?_
        show xa_C xm_I A h0 _ 231 [(2, 60, 0, 0, 0), (1, 0, 0, 15, M1 79 x2)] M1 _
        refine ct_tell (n := M1 60 20) (by first | rfl | (simp [xa_up]; done) | omega) (by omega) (by omega) ?_
        show Q 35 [(2, (0, 0, 1, 11, x2 + 1)), (0, (2, 60, 0, 0, 0))] [] (xa_up (xa_up M1 74 (M1 60 20) (M1 79 x2)) 60 20 ((M1 60 20) + 1))
        refine hgo.2.1 35 _ [(2, (0, 0, 0, 10, x2 + 1)), (0, (2, 60, 0, 0, 0))] _ _ (xa_subI rfl rfl (fun _ _ _ _ => by omega) (xa_subR rfl xa_sub0)) ?_
        exact ih0 (x2 + 1) (xa_up (xa_up M1 74 (M1 60 20) (M1 79 x2)) 60 20 ((M1 60 20) + 1)) (by omega) (xm_cor_f (by omega) (xm_cor_a rfl hc)) (xa_up_eq.trans (by omega)) (by omega) ((xa_up_ne (by omega)).trans ((xa_up_ne (by omega)).trans h29)) (by omega)
  refine hgo.1 22 [35] 0 _ _ _ ?_
  show xa_C xm_I A h0 _ 214 [(0, 0, (-2147483648), 2147483647, a), (0, 0, 1, 1, 1), (0, 0, 9, 9, 9)] (xa_up M 60 21 0) _
  refine ct_in ?_ ?_
  · intro (i1 : 1 ≤ a ∧ a ≤ 9)
    show xa_C xm_I A h0 _ 236 [(2, 60, 0, 0, 0), (0, 0, (-2147483648), 2147483647, a)] (xa_up M 60 21 0) _
    refine rz_fx (j := 236) (by decide) (xa_C_mok (ct_findWayF (xm_Inv_cor (xm_cor_f (by omega) xm_cor_r) hI) (by omega) (by omega) (fun v2 M2 hv2 hc2 hw2 hR2 hM2 => ?_)))
    intro (zM2 : M2 60 20 = M 60 20)
    refine And.intro ?_ ?_
    · intro (c3 : ¬ v2 = 0)
      show Q 35 [(2, (0, 0, 0, 0, 0)), (0, (2, 60, 0, 0, 0)), (1, (0, 0, (-2147483648), 2147483647, a))] [] (xa_up M2 60 20 0)
      refine hgo.2.1 35 _ [(2, (0, 0, 0, 10, 0)), (0, (2, 60, 0, 0, 0))] _ _ (xa_subI rfl rfl (fun _ _ _ _ => by omega) (xa_subR rfl xa_sub0)) ?_
      have hL : wy_L (M 60 6) (fun i => M 64 (M 66 i)) (fun i => M 64 (M 67 i)) (M2 78) a := hR2.1
      have t780 := xm_t78 hM2 0 (by omega) (by omega)
      obtain ⟨h99, e29⟩ : M2 78 0 < 99 ∧ M2 60 29 = M2 78 0 := by
        rcases hR2.2 with ⟨-, e2⟩ | ⟨e1, -⟩
        · exact ⟨e2.2.1, e2.2.2.1⟩
        · exact absurd e1 c3
      exact loop0 (M2 78 0) (fun lo hi M3 hc3 hz3 => k _ _ _ _ (Or.inr ⟨i1, M2 78, hL, t780.1, Or.inl ⟨h99, rfl⟩⟩) hc3 (Or.inl ⟨t780.1, hz3⟩)) 11 0 (xa_up M2 60 20 0) (by omega) (xm_cor_f (by omega) (xm_cor_t (xm_cor_f (by omega) xm_cor_r) hc2)) xa_up_eq t780.1 ((xa_up_ne (by omega)).trans e29) (by omega)
    · intro (c3 : v2 = 0)
      show post (some (0, 0, (-2), (-2), (-2))) M2
      have hL : wy_L (M 60 6) (fun i => M 64 (M 66 i)) (fun i => M 64 (M 67 i)) (M2 78) a := hR2.1
      have h99 : 99 ≤ M2 78 0 := by
        rcases hR2.2 with ⟨e1, -⟩ | ⟨-, e2⟩
        · omega
        · exact e2
      exact k _ _ _ _ (Or.inr ⟨i1, M2 78, hL, by omega, Or.inr ⟨h99, rfl⟩⟩) (xm_cor_t (xm_cor_f (by omega) xm_cor_r) hc2) (by show rz_c (0 ≤ (-2)) (M 60 20) (M2 60 20) (-2); unfold rz_c; omega)
  · intro (i1 : ¬ (1 ≤ a ∧ a ≤ 9))
    show post (some (0, 0, (-1), (-1), (-1))) (xa_up M 60 21 0)
    exact k _ _ _ _ (Or.inl ⟨i1, rfl⟩) (xm_cor_f (by omega) xm_cor_r) (by show rz_c (0 ≤ (-1)) (M 60 20) (M 60 20) (-1); unfold rz_c; omega)
theorem rz_p73 (A : Nat → Nat) (cmp : Bool) : iv_pair (rz_J A) A 73 235 [0] cmp false := rz_armU (fun W b h as M hJ hM hInv hs hR hz => by
  obtain ⟨m1, ys, rfl, -, hs⟩ := iv_spc hs
  obtain rfl := iv_sp0 hs
  have b0 := xm_f0 (xa_H_Mok hM)
  have b6 := xm_f6 (xa_H_Mok hM)
  have r1 : iv_num h 1 9 = M 60 0 := hR.1.1
  have r2 : iv_num h 1 10 = M 60 6 := hR.1.2.1
  have r3 : ∀ i, 0 ≤ i → i < 14 → iv_num h 2 i = M 61 i ∧ iv_num h 3 i = M 62 i ∧ iv_num h 5 i = M 64 i ∧ iv_num h 6 i = M 65 i ∧ iv_num h 4 i = M 63 i := hR.1.2.2.1
  have r4 : ∀ i, 0 ≤ i → i < 16 → iv_num h 7 i = M 66 i ∧ iv_num h 8 i = M 67 i := hR.1.2.2.2
  have hS := hR.2
  have hMk := xa_H_Mok hM
  have hAB : ∀ i, 0 ≤ i → i < M 60 6 → (0 ≤ xw_A M i ∧ xw_A M i < 10) ∧ (0 ≤ xw_B M i ∧ xw_B M i < 10) := fun i i0 i1 => by
    have := xm_msh hMk hInv i0 i1
    exact ⟨⟨this.2.2.1.1, by show M 64 (M 66 i) < 10; omega⟩, ⟨this.2.2.2.1.1, by show M 64 (M 67 i) < 10; omega⟩⟩
  have hr : ∀ k, 0 ≤ k → k < iv_num h 1 10 → (0 ≤ iv_num h 7 k ∧ iv_num h 7 k < 14) ∧ (0 ≤ iv_num h 8 k ∧ iv_num h 8 k < 14) := fun k k0 k1 => by
    obtain ⟨g7, g8⟩ := r4 k k0 (by omega)
    have t66 := xm_t66 hMk k k0 (by omega)
    have t67 := xm_t67 hMk k k0 (by omega)
    rw [g7, g8]
    omega
  have ha : ∀ w, 0 ≤ w → w < 14 → 0 ≤ iv_num h 5 w ∧ iv_num h 5 w < 10 := fun w w0 w1 => by
    have t64 := xm_t64 hMk w w0 w1
    rw [(r3 w w0 w1).2.2.1]
    omega
  have eL : ∀ (F : Int → Int) (X : Int), wy_L (M 60 6) (fun i => M 64 (M 66 i)) (fun i => M 64 (M 67 i)) F X → wy_L (iv_num h 1 10) (fun i => iv_num h 5 (iv_num h 7 i)) (fun i => iv_num h 5 (iv_num h 8 i)) F X := fun F X hL => wy_L_k r2 (fun i i0 i1 => by
    obtain ⟨g7, g8⟩ := r4 i i0 (by omega)
    have t66 := xm_t66 hMk i i0 (by omega)
    have t67 := xm_t67 hMk i i0 (by omega)
    refine ⟨?_, ?_⟩
    · show iv_num h 5 (iv_num h 7 i) = M 64 (M 66 i)
      rw [g7]
      exact (r3 _ t66.1 (by omega)).2.2.1
    · show iv_num h 5 (iv_num h 8 i) = M 64 (M 67 i)
      rw [g8]
      exact (r3 _ t67.1 (by omega)).2.2.1) hL
  have hx : ∃ F : Int → Int, (1 ≤ m1.toInt ∧ m1.toInt ≤ 9) → wy_L (M 60 6) (fun i => M 64 (M 66 i)) (fun i => M 64 (M 67 i)) F m1.toInt ∧ ∀ a, 0 ≤ F a := by
    by_cases c : 1 ≤ m1.toInt ∧ m1.toInt ≤ 9
    · obtain ⟨F, hF⟩ := wr_ex hMk (X := m1.toInt) (by omega) b6.1 hAB
      exact ⟨F, fun _ => hF⟩
    · exact ⟨fun _ => 0, fun h => absurd h c⟩
  obtain ⟨F, hF⟩ := hx
  have hc := rx_73 (b := b) (A := A) (h0 := h) (d := 54) (M := iv_num h) (F := F) (l1 := -2147483648) (u1 := 2147483647) (x1 := m1.toInt) (post := fun o M1 => (∃ lo hi n, o = some (0, 0, lo, hi, n) ∧ (((¬ (1 ≤ m1.toInt ∧ m1.toInt ≤ 9) ∧ n = -1) ∨ ((1 ≤ m1.toInt ∧ m1.toInt ≤ 9) ∧ ((F 0 < 99 ∧ n = F 0) ∨ (99 ≤ F 0 ∧ n = -2)))) ∧ rz_c (0 ≤ n) (iv_num h 48 1) (M1 48 1) n)) ∧ ∀ q j, lm_C q j → q < 60 → M1 q j = iv_num h q j) (fun c => ⟨eL F _ (hF c).1, by have := (hF c).1.1.2.1 0 (by decide) (by decide) (by omega); omega⟩) (by omega) hr ha (by omega) (fun n M1 x1 x2 x3 => ⟨⟨_, _, n, rfl, x1, x3⟩, fun q j hC _ => x2 q j (by first | (have t9 := lm_Cq hC; omega) | (unfold lm_C at hC; omega)) (by first | (have t9 := lm_Cq hC; omega) | (unfold lm_C at hC; omega)) (by first | (have t9 := lm_Cq hC; omega) | (unfold lm_C at hC; omega))⟩)
  have hm := fun (h1 : g_H) => rm_way (A := A) (h0 := h1) (d := 56) (M := M) (l1 := -2147483648) (u1 := 2147483647) (a := m1.toInt) (post := fun o M2 => (∃ lo hi n, o = some (0, 0, lo, hi, n) ∧ (((¬ (1 ≤ m1.toInt ∧ m1.toInt ≤ 9) ∧ n = -1) ∨ ((1 ≤ m1.toInt ∧ m1.toInt ≤ 9) ∧ ∃ G : Int → Int, wy_L (M 60 6) (fun i => M 64 (M 66 i)) (fun i => M 64 (M 67 i)) G m1.toInt ∧ 0 ≤ G 0 ∧ ((G 0 < 99 ∧ n = G 0) ∨ (99 ≤ G 0 ∧ n = -2)))) ∧ rz_c (0 ≤ n) (M 60 20) (M2 60 20) n)) ∧ xk_U M M2 ∧ xm_Inv M2) hInv (fun lo hi r M2 x1 x2 x3 => ⟨⟨lo, hi, r, rfl, x1, x3⟩, xk_cor x2, xm_Inv_cor x2 hInv⟩)
  refine ⟨[(2, 0, 0, 0, 0), (0, 0, -2147483648, 2147483647, m1.toInt)], [(2, 60, 0, 0, 0), (0, 0, -2147483648, 2147483647, m1.toInt)], fun n s => (((¬ (1 ≤ m1.toInt ∧ m1.toInt ≤ 9) ∧ n = -1) ∨ ((1 ≤ m1.toInt ∧ m1.toInt ≤ 9) ∧ ((F 0 < 99 ∧ n = F 0) ∨ (99 ≤ F 0 ∧ n = -2)))) ∧ rz_c (0 ≤ n) (iv_num h 48 1) s n), fun n s => (((¬ (1 ≤ m1.toInt ∧ m1.toInt ≤ 9) ∧ n = -1) ∨ ((1 ≤ m1.toInt ∧ m1.toInt ≤ 9) ∧ ∃ G : Int → Int, wy_L (M 60 6) (fun i => M 64 (M 66 i)) (fun i => M 64 (M 67 i)) G m1.toInt ∧ 0 ≤ G 0 ∧ ((G 0 < 99 ∧ n = G 0) ∨ (99 ≤ G 0 ∧ n = -2)))) ∧ rz_c (0 ≤ n) (M 60 20) s n), ⟨rfl, iv_i m1, trivial⟩, ⟨rfl, iv_i m1, trivial⟩, fun n n' s s' y1 y2 => ?_, hc, hm⟩
  obtain ⟨x1, z1⟩ := y1
  obtain ⟨x2, z2⟩ := y2
  have en : n = n' := by
    rcases x1 with ⟨c1, e1⟩ | ⟨c1, e1⟩
    · rcases x2 with ⟨-, e2⟩ | ⟨c2, -⟩
      · rw [e1, e2]
      · exact absurd c2 c1
    · rcases x2 with ⟨c2, -⟩ | ⟨-, G, hG, g0, e2⟩
      · exact absurd c1 c2
      · obtain ⟨u1, u2⟩ := wy_one (a := 0) ⟨by omega, by omega⟩ (fun i i0 i1 => hAB i i0 i1) (hF c1).1 hG (by decide) (by decide) ((hF c1).2 0) g0
        rcases e1 with ⟨y1, y2⟩ | ⟨y1, y2⟩
        · have := u1 y1
          omega
        · have := u2 y1
          omega
  subst en
  exact ⟨fun _ => rfl, rz_c1 z1 z2 Iff.rfl hz⟩)
