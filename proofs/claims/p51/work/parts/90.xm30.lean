-- depths of the model is safe
set_option maxRecDepth 20000
theorem xm_93_2 (M : xa_M) (i j v w : Int) : xa_up (xa_up M 93 i v) 93 j v 93 w = if w = j then v else if w = i then v else M 93 w := by
  simp only [xa_up, true_and]
theorem ms_depths {A : Nat → Nat} {h0 : g_H} {d : Nat} {M : xa_M} {post : Option xa_V → xa_M → Prop} (hI : xm_Inv M) (k : ∀ (o : Option xa_V) (M1 : xa_M), xm_cor M M1 → post o M1) : xa_C xm_I A h0 (d + 19) 267 [(2, 60, 0, 0, 0)] M post := by
  refine xa_meth (d := d + 18) (Q0 := (4, 1, false, 0, 0, 12)) (by decide +kernel) ⟨rfl, rfl⟩ (full := s_c_267) rfl rfl ?_
  intro hM hv Q hgo
  have b0 := xm_f0 hM
  have b6 := xm_f6 hM
  have hab : xk_ab (M 60 0) (M 60 6) (fun i => M 66 i) (fun i => M 67 i) := fun i i0 i1 => by
    have h1 := xm_t66 hM i i0 (by omega)
    have h2 := xm_t67 hM i i0 (by omega)
    have h3 := hI.2.1 i i0 i1
    exact ⟨⟨h1.1, h3.1⟩, h2.1, h3.2⟩
  have loop6 : ∀ (n : Nat) (x2 x1 : Int) (M1 : xa_M), 0 ≤ x2 ∧ x2 ≤ 14 → 0 ≤ x1 ∧ x1 ≤ 14 → xm_cor M M1 → M1 60 20 ≤ x2 → 14 - x2 < (n : Int) → Q 191 [(2, (0, 0, 0, 14, x2)), (1, (0, 0, 0, 14, x1)), (0, (2, 60, 0, 0, 0))] [] M1 := by
    intro n
    induction n with
    | zero => intro x2 x1 M1 b2 b1 hc h20 hms; omega
    | succ n ih =>
      intro x2 x1 M1 b2 b1 hc h20 hms
      refine hgo.2.2 _ _ _ _ (fun hM1 _ => ?_)
      have b20 := xm_f20 hM1
      have e0 := xm_corf hc 0 (by omega)
      refine hgo.1 18 [7, 30, 40, 112, 122, 168, 191] 191 _ _ _ ?_
      refine And.intro ?_ ?_
      · intro (c1 : (M1 60 0) ≤ x2)
        show post (some (0, 0, 0, 14, x1)) M1
        exact k _ _ hc
      · intro (c1 : x2 < (M1 60 0))
        refine And.intro (show 0 ≤ x2 ∧ x2 < 14 by omega) ?_
        show xa_C xm_I A h0 _ 231 [(2, 60, 0, 0, 0), (1, 0, (-1), 13, M1 94 x2)] M1 _
        refine ct_tell (n := M1 60 20) (by first | rfl | (simp [xa_up]; done) | omega) (by omega) (by omega) ?_
        show Q 191 [(2, (0, 0, 1, 15, x2 + 1)), (1, (0, 0, 0, 14, x1)), (0, (2, 60, 0, 0, 0))] [] (xa_up (xa_up M1 74 (M1 60 20) (M1 94 x2)) 60 20 ((M1 60 20) + 1))
        refine hgo.2.1 191 _ [(2, (0, 0, 0, 14, x2 + 1)), (1, (0, 0, 0, 14, x1)), (0, (2, 60, 0, 0, 0))] _ _ (xa_subI rfl rfl (fun _ _ _ _ => by omega) (xa_subI rfl rfl (fun _ _ _ _ => by omega) (xa_subR rfl xa_sub0))) ?_
        exact ih (x2 + 1) x1 (xa_up (xa_up M1 74 (M1 60 20) (M1 94 x2)) 60 20 ((M1 60 20) + 1)) (by omega) b1 (xm_cor_f (by omega) (xm_cor_a rfl hc)) (by first | omega | (simp [xa_up]; done) | (simp [xa_up]; omega)) (by omega)
  have loop5 : ∀ (n : Nat) (x1 : Int) (M1 : xa_M), 0 ≤ x1 ∧ x1 ≤ 14 → xm_cor M M1 → xm_ff M1 → xm_fw M1 → x1 ≤ M 60 0 → 14 - x1 < (n : Int) → Q 168 [(1, (0, 0, 0, 14, x1)), (0, (2, 60, 0, 0, 0))] [] M1 := by
    intro n
    induction n with
    | zero => intro x1 M1 b1 hc hff hfw h1 hms; omega
    | succ n ih =>
      intro x1 M1 b1 hc hff hfw h1 hms
      have e0 := xm_corf hc 0 (by omega)
      refine hgo.1 16 [7, 30, 40, 112, 122, 168, 191] 168 _ _ _ ?_
      show xa_C xm_I A h0 (d + 18) 269 [(2, 60, 0, 0, 0), (0, 0, 0, 0, 0), (0, 0, 0, 0, 0), (0, 0, 0, 14, x1)] M1 _
      obtain ⟨kk, hk⟩ : ∃ kk : Nat, M1 60 0 - 0 = (kk : Int) := ⟨(M1 60 0).toNat, by omega⟩
      have hd : d + 18 = (d + (14 - kk)) + kk + 4 := by omega
      rw [hd]
      refine ct_puts kk hk (by omega) (by omega) (by omega) (by omega) (by omega) hff hfw (fun r2 M2 br2 h94 hr2 => ?_)
      have hc2 := xm_cor_t hc (xm_94_c h94)
      refine And.intro ?_ ?_
      · intro (c2 : ¬ r2 = 0)
        show Q 191 [(2, (0, 0, 0, 0, 0)), (1, (0, 0, 0, 14, x1)), (0, (2, 60, 0, 0, 0))] [] (xa_up M2 60 20 0)
        exact hgo.2.1 191 _ _ _ _ (xa_subI rfl rfl (fun _ _ _ _ => by omega) (xa_subI rfl rfl (fun _ _ _ _ => by omega) (xa_subR rfl xa_sub0))) (loop6 15 0 x1 (xa_up M2 60 20 0) (by omega) b1 (xm_cor_f (by omega) hc2) (by first | omega | (simp [xa_up]; done) | (simp [xa_up]; omega)) (by omega))
      · intro (c2 : r2 = 0)
        show Q 168 [(1, (0, 0, 1, 15, x1 + 1)), (0, (2, 60, 0, 0, 0))] [] M2
        have hlt : x1 < M 60 0 := by
          rcases Int.lt_or_le x1 (M 60 0) with h | h
          · exact h
          · have := hr2 (by omega) ⟨fun v v0 v1 => by omega, fun v u v0 v1 => by omega, fun v v0 v1 => by omega, by omega⟩
            omega
        exact hgo.2.1 168 _ _ _ _ (xa_subI rfl rfl (fun _ _ _ _ => by omega) (xa_subR rfl xa_sub0)) (ih (x1 + 1) M2 (by omega) hc2 (xm_94_ff h94 hff) (xm_94_fw h94 hfw) (by omega) (by omega))
  have loop3 : ∀ (n : Nat) (x1 : Int) (M1 : xa_M), 0 ≤ x1 ∧ x1 ≤ 14 → xm_cor M M1 → xm_ff M1 → (∀ v u, 0 ≤ u → u < v → v < x1 → M1 93 v = M1 93 u → ¬ xm_inw M1 v u) → x1 ≤ M 60 0 → 14 - x1 < (n : Int) → Q 112 [(1, (0, 0, 0, 14, x1)), (0, (2, 60, 0, 0, 0))] [] M1 := by
    intro n
    induction n with
    | zero => intro x1 M1 b1 hc hff hiw h1 hms; omega
    | succ n ih =>
      intro x1 M1 b1 hc hff hiw h1 hms
      have e0 := xm_corf hc 0 (by omega)
      have loop4 : ∀ (n2 : Nat) (x2 : Int), 0 ≤ x2 ∧ x2 ≤ 13 → x1 < M 60 0 → x2 ≤ x1 → (∀ u, 0 ≤ u → u < x2 → M1 93 x1 = M1 93 u → ¬ xm_inw M1 x1 u) → 13 - x2 < (n2 : Int) → Q 122 [(2, (0, 0, 0, 13, x2)), (1, (0, 0, 0, 13, x1)), (0, (2, 60, 0, 0, 0))] [] M1 := by
        intro n2
        induction n2 with
        | zero => intro x2 b2 h10 h21 hu hms2; omega
        | succ n2 ih2 =>
          intro x2 b2 h10 h21 hu hms2
          have nx : x2 < x1 → (M1 93 x1 = M1 93 x2 → ¬ xm_inw M1 x1 x2) → Q 122 [(2, (0, 0, 1, 14, x2 + 1)), (1, (0, 0, 0, 13, x1)), (0, (2, 60, 0, 0, 0))] [] M1 := fun c1 hx => by
            refine hgo.2.1 122 _ _ _ _ (xa_subI rfl rfl (fun _ _ _ _ => by omega) (xa_subI rfl rfl (fun _ _ _ _ => by omega) (xa_subR rfl xa_sub0))) (ih2 (x2 + 1) (by omega) h10 (by omega) (fun u u0 u1 e => ?_) (by omega))
            rcases Int.lt_or_eq_of_le (show u ≤ x2 by omega) with c | c
            · exact hu u u0 c e
            · rw [c] at e ⊢
              exact hx e
          refine hgo.1 24 [7, 30, 40, 112, 122, 168, 191] 122 _ _ _ ?_
          refine And.intro ?_ ?_
          · intro (c1 : x1 ≤ x2)
            show Q 112 [(1, (0, 0, 1, 14, x1 + 1)), (2, (0, 0, 0, 13, x2)), (0, (2, 60, 0, 0, 0))] [] M1
            refine hgo.2.1 112 _ _ _ _ (xa_subI rfl rfl (fun _ _ _ _ => by omega) (xa_subR rfl xa_sub0)) (ih (x1 + 1) M1 (by omega) hc hff (fun v u u0 uv v1 e => ?_) (by omega) (by omega))
            rcases Int.lt_or_eq_of_le (show v ≤ x1 by omega) with c | c
            · exact hiw v u u0 uv c e
            · rw [c] at e uv ⊢
              exact hu u u0 (by omega) e
          · intro (c1 : x2 < x1)
            refine And.intro ?_ ?_
            · intro (c2 : ¬ (M1 93 x1) = (M1 93 x2))
              show Q 122 [(2, (0, 0, 1, 14, x2 + 1)), (1, (0, 0, 0, 13, x1)), (0, (2, 60, 0, 0, 0))] [] M1
              exact nx c1 (fun e => absurd e c2)
            · intro (c2 : (M1 93 x1) = (M1 93 x2))
              show xa_C xm_I A h0 _ 268 [(2, 60, 0, 0, 0), (0, 0, 0, 13, x1), (0, 0, 0, 13, x2)] M1 _
              refine ct_areInWay (by omega) (by omega) (by omega) (by omega) (fun r3 br3 hr3 => ?_)
              refine And.intro ?_ ?_
              · intro (c4 : r3 = 0)
                show Q 122 [(2, (0, 0, 1, 14, x2 + 1)), (1, (0, 0, 0, 13, x1)), (0, (2, 60, 0, 0, 0))] [] M1
                exact nx c1 (fun _ e => by have := hr3.2 e; omega)
              · intro (c4 : ¬ r3 = 0)
                show post (some (0, 0, (-2), (-2), (-2))) M1
                exact k _ _ hc
      refine hgo.1 11 [7, 30, 40, 112, 122, 168, 191] 112 _ _ _ ?_
      refine And.intro ?_ ?_
      · intro (c1 : (M1 60 0) ≤ x1)
        show Q 168 [(1, (0, 0, 0, 0, 0)), (0, (2, 60, 0, 0, 0))] [] M1
        refine hgo.2.1 168 _ _ _ _ (xa_subI rfl rfl (fun _ _ _ _ => by omega) (xa_subR rfl xa_sub0)) (loop5 15 0 M1 (by omega) hc hff (fun v u v0 vu u1 e hi => ?_) (by omega) (by omega))
        exact hiw u v v0 vu (by omega) e.symm (xm_inw_s hi)
      · intro (c1 : x1 < (M1 60 0))
        show Q 122 [(2, (0, 0, 0, 0, 0)), (1, (0, 0, 0, 14, x1)), (0, (2, 60, 0, 0, 0))] [] M1
        exact hgo.2.1 122 _ _ _ _ (xa_subI rfl rfl (fun _ _ _ _ => by omega) (xa_subI rfl rfl (fun _ _ _ _ => by omega) (xa_subR rfl xa_sub0))) (loop4 14 0 (by omega) (by omega) (by omega) (fun u u0 u1 => by omega) (by omega))
  have loop1 : ∀ (n : Nat) (x1 : Int) (M1 : xa_M), 0 ≤ x1 ∧ x1 ≤ 14 → xm_cor M M1 → xk_K (M 60 0) (M 60 6) (fun i => M 66 i) (fun i => M 67 i) (fun w => M1 93 w) → xk_R (M 60 0) (M 60 6) (fun i => M 66 i) (fun i => M 67 i) (fun w => M1 93 w) x1 → x1 ≤ M 60 0 → 14 - x1 < (n : Int) → Q 30 [(1, (0, 0, 0, 14, x1)), (0, (2, 60, 0, 0, 0))] [] M1 := by
    intro n
    induction n with
    | zero => intro x1 M1 b1 hc hK hR h1 hms; omega
    | succ n ih =>
      intro x1 M0 b1 hc hK hR h1 hms
      have e0 := xm_corf hc 0 (by omega)
      have loop2 : ∀ (n2 : Nat) (x2 : Int) (M1 : xa_M), 0 ≤ x2 ∧ x2 ≤ 16 → xm_cor M M1 → xk_K (M 60 0) (M 60 6) (fun i => M 66 i) (fun i => M 67 i) (fun w => M1 93 w) → xk_J (M 60 0) (M 60 6) (fun i => M 66 i) (fun i => M 67 i) (fun w => M0 93 w) (fun w => M1 93 w) x2 → x1 < M 60 0 → x2 ≤ M 60 6 → 16 - x2 < (n2 : Int) → Q 40 [(2, (0, 0, 0, 16, x2)), (1, (0, 0, 0, 13, x1)), (0, (2, 60, 0, 0, 0))] [] M1 := by
        intro n2
        induction n2 with
        | zero => intro x2 M1 b2 hc hK hJ h10 h2 hms2; omega
        | succ n2 ih2 =>
          intro x2 M1 b2 hc hK hJ h10 h2 hms2
          have e6 := xm_corf hc 6 (by omega)
          have e66 := xm_corq hc 66 rfl x2
          have e67 := xm_corq hc 67 rfl x2
          refine hgo.1 43 [7, 30, 40, 112, 122, 168, 191] 40 _ _ _ ?_
          refine And.intro ?_ ?_
          · intro (c1 : (M1 60 6) ≤ x2)
            show Q 30 [(1, (0, 0, 1, 14, x1 + 1)), (2, (0, 0, 0, 16, x2)), (0, (2, 60, 0, 0, 0))] [] M1
            have hx : x2 = M 60 6 := by omega
            rw [hx] at hJ
            exact hgo.2.1 30 _ _ _ _ (xa_subI rfl rfl (fun _ _ _ _ => by omega) (xa_subR rfl xa_sub0)) (ih (x1 + 1) M1 (by omega) hc hK (xk_e hJ hR) (by omega) (by omega))
          · intro (c1 : x2 < (M1 60 6))
            refine And.intro (show 0 ≤ x2 ∧ x2 < 16 by omega) ?_
            refine And.intro (show 0 ≤ x2 ∧ x2 < 16 by omega) ?_
            show xa_C xm_I A h0 _ 32 [(0, 0, 0, 13, M1 93 (M1 66 x2)), (0, 0, 0, 13, M1 93 (M1 67 x2))] M1 _
            refine ct_min 0 13 (by decide) (by decide) (by decide) (fun r2 br2 er2 => ?_)
            refine And.intro (show 0 ≤ x2 ∧ x2 < 16 by omega) ?_
            refine And.intro (show 0 ≤ x2 ∧ x2 < 16 by omega) ?_
            show Q 40 [(2, (0, 0, 1, 17, x2 + 1)), (3, (0, 0, 0, 13, r2)), (1, (0, 0, 0, 13, x1)), (0, (2, 60, 0, 0, 0))] [] (xa_up (xa_up M1 93 (M1 66 x2) r2) 93 (M1 67 x2) r2)
            rw [e66, e67] at er2 ⊢
            have hfe : ∀ w, (fun w => xa_up (xa_up M1 93 (M 66 x2) r2) 93 (M 67 x2) r2 93 w) w = if w = (fun i => M 67 i) x2 then r2 else if w = (fun i => M 66 i) x2 then r2 else (fun w => M1 93 w) w := fun w => xm_93_2 M1 _ _ _ _
            exact hgo.2.1 40 _ _ _ _ (xa_subI rfl rfl (fun _ _ _ _ => by omega) (xa_subI rfl rfl (fun _ _ _ _ => by omega) (xa_subR rfl xa_sub0))) (ih2 (x2 + 1) _ (by omega) (xm_cor_a rfl (xm_cor_a rfl hc)) (xk_Ks hab hK b2.1 (by omega) er2.1 er2.2.1 er2.2.2 hfe) (xk_Js hab hJ b2.1 (by omega) er2.1 er2.2.1 er2.2.2 hfe) h10 (by omega) (by omega))
      refine hgo.1 11 [7, 30, 40, 112, 122, 168, 191] 30 _ _ _ ?_
      refine And.intro ?_ ?_
      · intro (c1 : (M0 60 0) ≤ x1)
        show Q 112 [(1, (0, 0, 0, 0, 0)), (0, (2, 60, 0, 0, 0))] [] M0
        have hx : x1 = M 60 0 := by omega
        rw [hx] at hR
        refine hgo.2.1 112 _ _ _ _ (xa_subI rfl rfl (fun _ _ _ _ => by omega) (xa_subR rfl xa_sub0)) (loop3 15 0 M0 (by omega) hc (fun w w0 w1 => ?_) (fun v u u0 uv v1 => by omega) (by omega) (by omega))
        rw [e0] at w1
        have h1 := hK.2 w w0 w1
        exact ⟨h1.1, h1.2, xk_fin b0.1 hab hK hR w w0 w1⟩
      · intro (c1 : x1 < (M0 60 0))
        show Q 40 [(2, (0, 0, 0, 0, 0)), (1, (0, 0, 0, 14, x1)), (0, (2, 60, 0, 0, 0))] [] M0
        exact hgo.2.1 40 _ _ _ _ (xa_subI rfl rfl (fun _ _ _ _ => by omega) (xa_subI rfl rfl (fun _ _ _ _ => by omega) (xa_subR rfl xa_sub0))) (loop2 17 0 M0 (by omega) hc hK xk_J0 (by omega) (by omega) (by omega))
  have loop0 : ∀ (n : Nat) (x1 : Int) (M1 : xa_M), 0 ≤ x1 ∧ x1 ≤ 14 → xm_cor M M1 → (∀ w, 0 ≤ w → w < x1 → M1 93 w = w) → x1 ≤ M 60 0 → 14 - x1 < (n : Int) → Q 7 [(1, (0, 0, 0, 14, x1)), (0, (2, 60, 0, 0, 0))] [] M1 := by
    intro n
    induction n with
    | zero => intro x1 M1 b1 hc hw h1 hms; omega
    | succ n ih =>
      intro x1 M1 b1 hc hw h1 hms
      have e0 := xm_corf hc 0 (by omega)
      refine hgo.1 16 [7, 30, 40, 112, 122, 168, 191] 7 _ _ _ ?_
      refine And.intro ?_ ?_
      · intro (c1 : (M1 60 0) ≤ x1)
        show Q 30 [(1, (0, 0, 0, 0, 0)), (0, (2, 60, 0, 0, 0))] [] M1
        have hid : ∀ w, 0 ≤ w → w < M 60 0 → (fun w => M1 93 w) w = w := fun w w0 w1 => hw w w0 (by omega)
        exact hgo.2.1 30 _ _ _ _ (xa_subI rfl rfl (fun _ _ _ _ => by omega) (xa_subR rfl xa_sub0)) (loop1 15 0 M1 (by omega) hc (xk_K0 hid) (xk_R0 hab hid) (by omega) (by omega))
      · intro (c1 : x1 < (M1 60 0))
        refine And.intro (show 0 ≤ x1 ∧ x1 < 14 by omega) ?_
        refine And.intro (show 0 ≤ x1 ∧ x1 ≤ 13 by omega) ?_
        show Q 7 [(1, (0, 0, 1, 15, x1 + 1)), (0, (2, 60, 0, 0, 0))] [] (xa_up M1 93 x1 x1)
        refine hgo.2.1 7 _ _ _ _ (xa_subI rfl rfl (fun _ _ _ _ => by omega) (xa_subR rfl xa_sub0)) (ih (x1 + 1) (xa_up M1 93 x1 x1) (by omega) (xm_cor_a rfl hc) (fun w w0 w1 => ?_) (by omega) (by omega))
        rcases Int.lt_or_eq_of_le (show w ≤ x1 by omega) with c | c
        · rw [xa_up_ne (by omega)]
          exact hw w w0 c
        · rw [c]
          simp [xa_up]
  refine hgo.1 10 [7, 30, 40, 112, 122, 168, 191] 0 _ _ _ ?_
  show Q 7 [(1, (0, 0, 0, 0, 0)), (0, (2, 60, 0, 0, 0))] [] (xa_up M 60 21 0)
  refine hgo.2.1 7 _ _ _ _ (xa_subI rfl rfl (fun _ _ _ _ => by omega) (xa_subR rfl xa_sub0)) (loop0 15 0 (xa_up M 60 21 0) (by omega) (xm_cor_f (by omega) xm_cor_r) (fun w w0 w1 => by omega) (by omega) (by omega))
