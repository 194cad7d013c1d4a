-- puts of the model: it ends, keeps what is ahead, and finds a way where there are depths enough
set_option maxRecDepth 20000
theorem xm_tg_b {M : xa_M} {w used t : Int} (hf : xm_ff M) (hp : xm_pg M w used) (ht : xm_tg M w used t) (w0 : 0 ≤ w) (w1 : w < M 60 0) : t ≤ used ∧ ∀ v, 0 ≤ v → v < w → M 94 v = t → M 93 v = M 93 w := by
  obtain ⟨p1, p2, p3, p4⟩ := hp
  have fw := hf w w0 w1
  by_cases c : M 93 w < w
  · have e := ht.1 c
    have b := p1 (M 93 w) fw.1 c
    refine ⟨by omega, fun v v0 v1 ev => ?_⟩
    rw [p2 v (M 93 w) v0 v1 fw.1 c (by omega)]
    exact fw.2.2
  · have e := ht.2 c
    refine ⟨by omega, fun v v0 v1 ev => ?_⟩
    have := p1 v v0 v1
    omega
theorem ct_puts : ∀ (k : Nat) {A : Nat → Nat} {h0 : g_H} {d : Nat} {M : xa_M} {post : Option xa_V → xa_M → Prop} {l1 u1 l2 u2 l3 u3 : Int} {w u m : Int}, M 60 0 - w = (k : Int) → 0 ≤ w → 0 ≤ u → u ≤ 14 → 0 ≤ m → m ≤ 14 → xm_ff M → xm_fw M → (∀ (r : Int) (M1 : xa_M), (r = 0 ∨ r = 1) → xm_94 w M M1 → (M 60 0 ≤ m → xm_pg M w u → r = 1) → post (some (0, 0, 0, 1, r)) M1) → xa_C xm_I A h0 (d + k + 4) 269 [(2, 60, 0, 0, 0), (0, 0, l1, u1, w), (0, 0, l2, u2, u), (0, 0, l3, u3, m)] M post := by
  intro k
  induction k with
  | zero =>
    intro A h0 d M post l1 u1 l2 u2 l3 u3 w u m hw w0 u0 u14 m0 m14 hff hfw kk
    refine xa_C_asm (fun hM _ => ?_)
    have b0 := xm_f0 hM
    refine xa_C_arg [(2, 60, 0, 0, 0), (0, 0, 0, 14, w), (0, 0, 0, 14, u), (0, 0, 0, 14, m)] (xa_svR (xa_svI (fun _ _ _ _ => by omega) (xa_svI (fun _ _ _ _ => by omega) (xa_svI (fun _ _ _ _ => by omega) xa_sv0)))) (xa_C_wk ?_)
    refine xa_meth (Q0 := (7, 2, false, 0, 0, 12)) (by decide +kernel) ⟨rfl, rfl⟩ (full := s_c_269) rfl rfl ?_
    intro _ _ Q hgo
    refine hgo.1 11 [13, 60] 0 _ _ _ ?_
    refine And.intro ?_ ?_
    · intro (c1 : ¬ w = (M 60 0))
      exfalso
      omega
    · intro (c1 : w = (M 60 0))
      show xa_wk post (some (0, 0, 1, 1, 1)) M
      exact xa_wkI 1 rfl (fun _ _ => by omega) (kk 1 _ (by omega) xm_94_r (fun _ _ => rfl))
  | succ k ih =>
    intro A h0 d M post l1 u1 l2 u2 l3 u3 w u m hw w0 u0 u14 m0 m14 hff hfw kk
    refine xa_C_asm (fun hM _ => ?_)
    have b0 := xm_f0 hM
    have hw1 : w < M 60 0 := by omega
    refine xa_C_arg [(2, 60, 0, 0, 0), (0, 0, 0, 13, w), (0, 0, 0, 14, u), (0, 0, 0, 14, m)] (xa_svR (xa_svI (fun _ _ _ _ => by omega) (xa_svI (fun _ _ _ _ => by omega) (xa_svI (fun _ _ _ _ => by omega) xa_sv0)))) (xa_C_wk ?_)
    refine xa_meth (d := d + k + 4) (Q0 := (7, 2, false, 0, 0, 12)) (by decide +kernel) ⟨rfl, rfl⟩ (full := s_c_269) rfl rfl ?_
    intro _ _ Q hgo
    obtain ⟨t, ht⟩ := xm_tg_ex M w u
    have htb := fun hp => xm_tg_b hff hp ht w0 hw1
    have hfz := hff w w0 hw1
    have loop1 : ∀ (n : Nat) (x4 : Int) (M1 : xa_M), 0 ≤ x4 ∧ x4 ≤ 14 → xm_94 w M M1 → (M 60 0 ≤ m → xm_pg M w u → x4 ≤ t) → 14 - x4 < (n : Int) → Q 13 [(4, (0, 0, 0, 14, x4)), (1, (0, 0, 0, 13, w)), (2, (0, 0, 0, 14, u)), (3, (0, 0, 0, 14, m)), (0, (2, 60, 0, 0, 0))] [] M1 := by
      intro n
      induction n with
      | zero => intro x4 M1 b4 h94 hle hms; omega
      | succ n ih1 =>
        intro x4 M1 b4 h94 hle hms
        have e93 : M1 93 w = M 93 w := h94 93 w (by omega)
        have e0 : M1 60 0 = M 60 0 := h94 60 0 (by omega)
        have loop2 : ∀ (n2 : Nat) (x6 x5 : Int), 0 ≤ x6 ∧ x6 ≤ 14 → 0 ≤ x5 ∧ x5 ≤ 1 → x6 ≤ w → x4 < m → x4 ≤ u → (M 60 0 ≤ m → xm_pg M w u → x4 = t → x5 = 1) → 14 - x6 < (n2 : Int) → Q 60 [(6, (0, 0, 0, 14, x6)), (5, (0, 0, 0, 1, x5)), (4, (0, 0, 0, 13, x4)), (1, (0, 0, 0, 13, w)), (2, (0, 0, 0, 14, u)), (3, (0, 0, 0, 14, m)), (0, (2, 60, 0, 0, 0))] [] M1 := by
          intro n2
          induction n2 with
          | zero => intro x6 x5 b6 b5 h6 h4m h4u hcan hms2; omega
          | succ n2 ih2 =>
            intro x6 x5 b6 b5 h6 h4m h4u hcan hms2
            refine hgo.1 29 [13, 60] 60 _ _ _ ?_
            refine And.intro ?_ ?_
            · intro (c1 : w ≤ x6)
              refine And.intro ?_ ?_
              · intro (c2 : x5 = 0)
                show Q 13 [(4, (0, 0, 1, 14, x4 + 1)), (6, (0, 0, 0, 14, x6)), (5, (0, 0, 0, 1, x5)), (1, (0, 0, 0, 13, w)), (2, (0, 0, 0, 14, u)), (3, (0, 0, 0, 14, m)), (0, (2, 60, 0, 0, 0))] [] (xa_up M1 94 w x4)
                refine hgo.2.1 13 _ _ _ _ (xa_subI rfl rfl (fun _ _ _ _ => by omega) (xa_subI rfl rfl (fun _ _ _ _ => by omega) (xa_subI rfl rfl (fun _ _ _ _ => by omega) (xa_subI rfl rfl (fun _ _ _ _ => by omega) (xa_subR rfl xa_sub0))))) (ih1 (x4 + 1) (xa_up M1 94 w x4) (by omega) (xm_94_u (by omega) h94) (fun hm hp => ?_) (by omega))
                have a := hle hm hp
                have b := hcan hm hp
                omega
              · intro (c2 : ¬ x5 = 0)
                show xa_C xm_I A h0 _ 35 [(0, 0, 0, 14, u), (0, 0, 1, 14, x4 + 1)] (xa_up M1 94 w x4) _
                refine ct_max 1 14 (by decide) (by decide) (by decide) (fun r3 br3 er3 => ?_)
                show xa_C xm_I A h0 (d + k + 4) 269 [(2, 60, 0, 0, 0), (0, 0, 1, 14, w + 1), (0, 0, 1, 14, r3), (0, 0, 0, 14, m)] (xa_up M1 94 w x4) _
                have h94u : xm_94 w M (xa_up M1 94 w x4) := xm_94_u (by omega) h94
                have e0u : xa_up M1 94 w x4 60 0 = M 60 0 := h94u 60 0 (by omega)
                refine ih (d := d) (by omega) (by omega) (by omega) (by omega) (by omega) (by omega) (xm_94_ff h94u hff) (xm_94_fw h94u hfw) (fun r4 M4 br4 h4 hr4 => ?_)
                have h94v : xm_94 w M M4 := xm_94_t (by omega) h94u h4
                refine And.intro ?_ ?_
                · intro (c5 : r4 = 0)
                  show Q 13 [(4, (0, 0, 1, 14, x4 + 1)), (6, (0, 0, 0, 14, x6)), (5, (0, 0, 0, 1, x5)), (1, (0, 0, 0, 13, w)), (2, (0, 0, 0, 14, u)), (3, (0, 0, 0, 14, m)), (0, (2, 60, 0, 0, 0))] [] M4
                  refine hgo.2.1 13 _ _ _ _ (xa_subI rfl rfl (fun _ _ _ _ => by omega) (xa_subI rfl rfl (fun _ _ _ _ => by omega) (xa_subI rfl rfl (fun _ _ _ _ => by omega) (xa_subI rfl rfl (fun _ _ _ _ => by omega) (xa_subR rfl xa_sub0))))) (ih1 (x4 + 1) M4 (by omega) h94v (fun hm hp => ?_) (by omega))
                  have a := hle hm hp
                  rcases Int.lt_or_eq_of_le a with c | c
                  · omega
                  · exfalso
                    have hp2 := xm_pg_s (z := r3) h94 hff hp ht w0 hw1 u0 (by omega) (by omega) (by omega)
                    rw [← c] at hp2
                    have := hr4 (by omega) hp2
                    omega
                · intro (c5 : ¬ r4 = 0)
                  show xa_wk post (some (0, 0, 1, 1, 1)) M4
                  exact xa_wkI 1 rfl (fun _ _ => by omega) (kk 1 _ (by omega) h94v (fun _ _ => rfl))
            · intro (c1 : x6 < w)
              refine And.intro ?_ ?_
              · intro (c6 : x5 = 0)
                show Q 60 [(6, (0, 0, 1, 15, x6 + 1)), (5, (0, 0, 0, 0, 0)), (4, (0, 0, 0, 13, x4)), (1, (0, 0, 0, 13, w)), (2, (0, 0, 0, 14, u)), (3, (0, 0, 0, 14, m)), (0, (2, 60, 0, 0, 0))] [] M1
                refine hgo.2.1 60 _ _ _ _ (xa_subI rfl rfl (fun _ _ _ _ => by omega) (xa_subI rfl rfl (fun _ _ _ _ => by omega) (xa_subI rfl rfl (fun _ _ _ _ => by omega) (xa_subI rfl rfl (fun _ _ _ _ => by omega) (xa_subI rfl rfl (fun _ _ _ _ => by omega) (xa_subI rfl rfl (fun _ _ _ _ => by omega) (xa_subR rfl xa_sub0))))))) (ih2 (x6 + 1) 0 (by omega) (by omega) (by omega) h4m h4u (fun hm hp e => ?_) (by omega))
                have := hcan hm hp e
                omega
              · intro (c6 : ¬ x5 = 0)
                have e94 : M1 94 x6 = M 94 x6 := h94 94 x6 (by omega)
                refine And.intro (show 0 ≤ x6 ∧ x6 < 14 by omega) ?_
                refine And.intro ?_ ?_
                · intro (c7 : ¬ (M1 94 x6) = x4)
                  show Q 60 [(6, (0, 0, 1, 15, x6 + 1)), (5, (0, 0, 1, 1, 1)), (4, (0, 0, 0, 13, x4)), (1, (0, 0, 0, 13, w)), (2, (0, 0, 0, 14, u)), (3, (0, 0, 0, 14, m)), (0, (2, 60, 0, 0, 0))] [] M1
                  exact hgo.2.1 60 _ _ _ _ (xa_subI rfl rfl (fun _ _ _ _ => by omega) (xa_subI rfl rfl (fun _ _ _ _ => by omega) (xa_subI rfl rfl (fun _ _ _ _ => by omega) (xa_subI rfl rfl (fun _ _ _ _ => by omega) (xa_subI rfl rfl (fun _ _ _ _ => by omega) (xa_subI rfl rfl (fun _ _ _ _ => by omega) (xa_subR rfl xa_sub0))))))) (ih2 (x6 + 1) 1 (by omega) (by omega) (by omega) h4m h4u (fun _ _ _ => rfl) (by omega))
                · intro (c7 : (M1 94 x6) = x4)
                  show xa_C xm_I A h0 _ 268 [(2, 60, 0, 0, 0), (0, 0, 0, 14, x6), (0, 0, 0, 13, w)] M1 _
                  refine ct_areInWay (by omega) (by omega) (by omega) (by omega) (fun r8 br8 hr8 => ?_)
                  refine And.intro ?_ ?_
                  · intro (c9 : ¬ r8 = 0)
                    show Q 60 [(6, (0, 0, 1, 15, x6 + 1)), (5, (0, 0, 0, 0, 0)), (4, (0, 0, 0, 13, x4)), (1, (0, 0, 0, 13, w)), (2, (0, 0, 0, 14, u)), (3, (0, 0, 0, 14, m)), (0, (2, 60, 0, 0, 0))] [] M1
                    refine hgo.2.1 60 _ _ _ _ (xa_subI rfl rfl (fun _ _ _ _ => by omega) (xa_subI rfl rfl (fun _ _ _ _ => by omega) (xa_subI rfl rfl (fun _ _ _ _ => by omega) (xa_subI rfl rfl (fun _ _ _ _ => by omega) (xa_subI rfl rfl (fun _ _ _ _ => by omega) (xa_subI rfl rfl (fun _ _ _ _ => by omega) (xa_subR rfl xa_sub0))))))) (ih2 (x6 + 1) 0 (by omega) (by omega) (by omega) h4m h4u (fun hm hp e => ?_) (by omega))
                    exfalso
                    have e2 := (htb hp).2 x6 b6.1 c1 (by omega)
                    have hi := hr8.1 (by omega)
                    rw [xm_inw_c (xm_94_c h94)] at hi
                    exact hfw x6 w b6.1 c1 hw1 e2 hi
                  · intro (c9 : r8 = 0)
                    show Q 60 [(6, (0, 0, 1, 15, x6 + 1)), (5, (0, 0, 1, 1, 1)), (4, (0, 0, 0, 13, x4)), (1, (0, 0, 0, 13, w)), (2, (0, 0, 0, 14, u)), (3, (0, 0, 0, 14, m)), (0, (2, 60, 0, 0, 0))] [] M1
                    exact hgo.2.1 60 _ _ _ _ (xa_subI rfl rfl (fun _ _ _ _ => by omega) (xa_subI rfl rfl (fun _ _ _ _ => by omega) (xa_subI rfl rfl (fun _ _ _ _ => by omega) (xa_subI rfl rfl (fun _ _ _ _ => by omega) (xa_subI rfl rfl (fun _ _ _ _ => by omega) (xa_subI rfl rfl (fun _ _ _ _ => by omega) (xa_subR rfl xa_sub0))))))) (ih2 (x6 + 1) 1 (by omega) (by omega) (by omega) h4m h4u (fun _ _ _ => rfl) (by omega))
        refine hgo.1 30 [13, 60] 13 _ _ _ ?_
        refine And.intro ?_ ?_
        · intro (c1 : u < x4)
          show xa_wk post (some (0, 0, 0, 0, 0)) M1
          refine xa_wkI 0 rfl (fun _ _ => by omega) (kk 0 _ (by omega) h94 (fun hm hp => ?_))
          have a := hle hm hp
          have b := (htb hp).1
          omega
        · intro (c1 : x4 ≤ u)
          refine And.intro ?_ ?_
          · intro (c2 : m ≤ x4)
            show xa_wk post (some (0, 0, 0, 0, 0)) M1
            refine xa_wkI 0 rfl (fun _ _ => by omega) (kk 0 _ (by omega) h94 (fun hm hp => ?_))
            have a := hle hm hp
            have b := (htb hp).1
            have c := hp.2.2.2
            omega
          · intro (c2 : x4 < m)
            have go60 : Q 60 [(6, (0, 0, 0, 0, 0)), (5, (0, 0, 1, 1, 1)), (4, (0, 0, 0, 14, x4)), (1, (0, 0, 0, 13, w)), (2, (0, 0, 0, 14, u)), (3, (0, 0, 0, 14, m)), (0, (2, 60, 0, 0, 0))] [] M1 := hgo.2.1 60 _ _ _ _ (xa_subI rfl rfl (fun _ _ _ _ => by omega) (xa_subI rfl rfl (fun _ _ _ _ => by omega) (xa_subI rfl rfl (fun _ _ _ _ => by omega) (xa_subI rfl rfl (fun _ _ _ _ => by omega) (xa_subI rfl rfl (fun _ _ _ _ => by omega) (xa_subI rfl rfl (fun _ _ _ _ => by omega) (xa_subR rfl xa_sub0))))))) (loop2 15 0 1 (by omega) (by omega) (by omega) c2 c1 (fun _ _ _ => rfl) (by omega))
            refine And.intro ?_ ?_
            · intro (c3 : w ≤ (M1 93 w))
              exact go60
            · intro (c3 : (M1 93 w) < w)
              refine And.intro ?_ ?_
              · intro (c4 : (M1 94 (M1 93 w)) = x4)
                exact go60
              · intro (c4 : ¬ (M1 94 (M1 93 w)) = x4)
                show Q 13 [(4, (0, 0, 1, 15, x4 + 1)), (1, (0, 0, 0, 13, w)), (2, (0, 0, 0, 14, u)), (3, (0, 0, 0, 14, m)), (0, (2, 60, 0, 0, 0))] [] M1
                rw [e93] at c3 c4
                rw [h94 94 (M 93 w) (by omega)] at c4
                refine hgo.2.1 13 _ _ _ _ (xa_subI rfl rfl (fun _ _ _ _ => by omega) (xa_subI rfl rfl (fun _ _ _ _ => by omega) (xa_subI rfl rfl (fun _ _ _ _ => by omega) (xa_subI rfl rfl (fun _ _ _ _ => by omega) (xa_subR rfl xa_sub0))))) (ih1 (x4 + 1) M1 (by omega) h94 (fun hm hp => ?_) (by omega))
                have a := hle hm hp
                have b := ht.1 c3
                omega
    refine hgo.1 11 [13, 60] 0 _ _ _ ?_
    refine And.intro ?_ ?_
    · intro (c1 : ¬ w = (M 60 0))
      show Q 13 [(4, (0, 0, 0, 0, 0)), (0, (2, 60, 0, 0, 0)), (1, (0, 0, 0, 13, w)), (2, (0, 0, 0, 14, u)), (3, (0, 0, 0, 14, m))] [] M
      refine hgo.2.1 13 _ _ _ _ (xa_subI rfl rfl (fun _ _ _ _ => by omega) (xa_subI rfl rfl (fun _ _ _ _ => by omega) (xa_subI rfl rfl (fun _ _ _ _ => by omega) (xa_subI rfl rfl (fun _ _ _ _ => by omega) (xa_subR rfl xa_sub0))))) (loop1 15 0 M (by omega) xm_94_r (fun hm hp => ?_) (by omega))
      by_cases c : M 93 w < w
      · have a := ht.1 c
        have b := hp.1 (M 93 w) hfz.1 c
        omega
      · have a := ht.2 c
        omega
    · intro (c1 : w = (M 60 0))
      exfalso
      omega
