-- slot of the model; uneven of both
section T48
variable {xs : Nat → Int} {d : Nat} {K : s_Call}
theorem s_sm2_ok (hK : s_CS xs s_mi K (g_run (d + 1))) (hx : s_x32 xs) {r : Int} (hr : sl_r xs r) {tn : Int} {M : s_M} {outs : List (Option s_V × s_M)} (h : s_sm2 K r (5, tn) M = some outs) :
    (∀ out ∈ outs, M.1.length ≤ out.2.1.length ∧ M.2.2.2.length ≤ out.2.2.2.2.length) ∧ ∀ P : g_S → Prop, (∀ S, g_pre (g_run (d + 1)) 12 9 false 0 0 (g_by 271) P S → P S) → ∀ post : Option Value → g_H → Prop, (∀ S, g_end (g_by 271) (g_rt 271) 0 0 post S → P S) → ∀ (σ : Nat → Int) (ρ : Nat → Nat) (b : Nat), s_ok xs σ M →
      (∀ out ∈ outs, ∀ (σ' : Nat → Int) (ρ' : Nat → Nat), (∀ i, i < M.1.length → σ' i = σ i) → (∀ i, i < M.2.2.2.length → ρ' i = ρ i) → s_ok xs σ' out.2 → post (out.1.map (s_cv σ' ρ' b)) (s_ch σ' ρ' b 0 out.2.2.2.2)) →
      P (5, [(0, .ref (ρ tn.toNat)), (1, .int (Int32.ofInt (xs 1))), (2, .int (Int32.ofInt (xs 2))), (3, .int (Int32.ofInt (xs 3))), (4, .int (Int32.ofInt (xs 4)))], [], 0, 0, s_ch σ ρ b 0 M.2.2.2) := by
  have hq : s_mi[271]? = some (9, 1, false, 0, 0, 12) := by decide +kernel
  have hfull := h_full hq (t := s_c_271) rfl
  unfold s_sm2 at h
  cases er : decide (r = -1)
  · rw [er, cond_false] at h
    have er := of_decide_eq_false er
    split at h
    next n1 n2 M2 g =>
      split at h
      next Ms e1 =>
        cases h
        obtain ⟨l1, l2, l3, l4, l5, -⟩ := s_grow2_len g
        obtain ⟨k1, k2⟩ := s_stq_ok hK hq e1
        refine ⟨fun out ho => ?_, fun P hcl post hpost σ ρ b hok hp => ?_⟩
        · obtain ⟨N, hN, rfl⟩ := s_ans_in.mp ho
          have := k1 N hN
          exact ⟨Nat.le_trans l4 this.1, by rw [← l5]; exact this.2⟩
        · refine sl_m hcl hfull (fun hin => ?_) (fun hn => ?_)
          · have hin' := hin
            rw [hx, hx, hx, hx] at hin'
            obtain ⟨u1, u2⟩ := sl_U2_eq hin
            obtain ⟨v1, v2⟩ := sl_V2_eq hin
            obtain ⟨v4, v5⟩ := sl_V_eq hin
            have v3 := sl_dn_pos hin
            have hr1 := (hr.1 hin').1
            obtain ⟨σ', a1, a2, a3, a4, a5⟩ := s_grow2_ok g hok (z1 := (sl_U2 (Int32.ofInt (xs 1)) (Int32.ofInt (xs 2)) (Int32.ofInt (xs 3)) (Int32.ofInt (xs 4))).toInt) (z2 := (sl_V2 (Int32.ofInt (xs 1)) (Int32.ofInt (xs 2)) (Int32.ofInt (xs 3)) (Int32.ofInt (xs 4))).toInt) (by omega) (by rw [v1]; rw [v4] at v5; omega)
            have key := k2 P hcl σ' ρ b a2 (fun N hN σ2 ρ2 b1 b2 b3 => ?_)
            · have eL : s_cL σ' ρ b [(7, (3, (n2 : Int))), (5, (3, (n1 : Int))), (0, (5, tn)), (1, (2, 1)), (2, (2, 2)), (3, (2, 3)), (4, (2, 4))] = [(7, .long (sl_V2 (Int32.ofInt (xs 1)) (Int32.ofInt (xs 2)) (Int32.ofInt (xs 3)) (Int32.ofInt (xs 4)))), (5, .long (sl_U2 (Int32.ofInt (xs 1)) (Int32.ofInt (xs 2)) (Int32.ofInt (xs 3)) (Int32.ofInt (xs 4)))), (0, .ref (ρ tn.toNat)), (1, .int (Int32.ofInt (xs 1))), (2, .int (Int32.ofInt (xs 2))), (3, .int (Int32.ofInt (xs 3))), (4, .int (Int32.ofInt (xs 4)))] := by
                show [(7, Value.long (Int64.ofInt (σ' (n2 : Int).toNat))), (5, .long (Int64.ofInt (σ' (n1 : Int).toNat))), (0, .ref (ρ tn.toNat)), (1, .int (Int32.ofInt (σ' 1))), (2, .int (Int32.ofInt (σ' 2))), (3, .int (Int32.ofInt (σ' 3))), (4, .int (Int32.ofInt (σ' 4)))] = _
                rw [Int.toNat_natCast, Int.toNat_natCast, a3, a4, s_lz, s_lz, a2.2.2.2 1 (by decide), a2.2.2.2 2 (by decide), a2.2.2.2 3 (by decide), a2.2.2.2 4 (by decide)]
              rw [eL, a5] at key
              exact key
            · have e7 : Int64.ofInt (σ2 (n2 : Int).toNat) = sl_V2 (Int32.ofInt (xs 1)) (Int32.ofInt (xs 2)) (Int32.ofInt (xs 3)) (Int32.ofInt (xs 4)) := by
                rw [Int.toNat_natCast, b1 n2 l3, a4, s_lz]
              have e5 : Int64.ofInt (σ2 (n1 : Int).toNat) = sl_U2 (Int32.ofInt (xs 1)) (Int32.ofInt (xs 2)) (Int32.ofInt (xs 3)) (Int32.ofInt (xs 4)) := by
                rw [Int.toNat_natCast, b1 n1 l2, a3, s_lz]
              show P (118, (7, .long (Int64.ofInt (σ2 (n2 : Int).toNat))) :: (5, .long (Int64.ofInt (σ2 (n1 : Int).toNat))) :: s_cL σ2 ρ2 b [(0, (5, tn)), (1, (2, 1)), (2, (2, 2)), (3, (2, 3)), (4, (2, 4))], [], 0, 0, s_ch σ2 ρ2 b 0 N.2.2.2)
              rw [e7, e5]
              refine sl_me hcl hfull ?_
              refine hpost _ (h_iret hq rfl hfull rfl (Nat.le_refl _) (Nat.le_refl _) ?_)
              rw [u1, v1, hx, hx, hx, hx, hr1]
              exact hp (some (0, r), N) (s_ans_in.mpr ⟨N, hN, rfl⟩) σ2 ρ2 (fun i hi => by rw [b1 i (by omega), a1 i hi]) (fun i hi => b2 i (by rw [l5]; exact hi)) b3
          · rw [hx, hx, hx, hx] at hn
            exact absurd (hr.2 hn) er
      next => cases h
    next => cases h
  · rw [er, cond_true] at h
    have er := of_decide_eq_true er
    cases h
    refine ⟨fun out ho => ?_, fun P hcl post hpost σ ρ b hok hp => ?_⟩
    · obtain ⟨N, hN, rfl⟩ := s_ans_in.mp ho
      rw [List.mem_singleton] at hN
      subst hN
      exact ⟨Nat.le_refl _, Nat.le_refl _⟩
    · refine sl_m hcl hfull (fun hin => ?_) (fun hn => ?_)
      · rw [hx, hx, hx, hx] at hin
        exact absurd er (hr.1 hin).2
      · exact hpost _ (h_iret hq rfl hfull rfl (Nat.le_refl _) (Nat.le_refl _) (hp (some (0, -1), M) (s_ans_in.mpr ⟨M, List.mem_singleton.mpr rfl, rfl⟩) σ ρ (fun _ _ => rfl) (fun _ _ => rfl) hok))
theorem s_sm_ok (hK : s_CS xs s_mi K (g_run (d + 1))) (hx : s_x32 xs) {r : Int} (hr : sl_r xs r) {as : List s_V} {M : s_M} {outs : List (Option s_V × s_M)} (h : s_sm K r as M = some outs) : s_CT xs (d + 1 + 1) 271 as M outs := by
  unfold s_sm at h
  split at h
  next t rest =>
    replace h := s_bif h
    obtain ⟨h1, h⟩ := h
    obtain ⟨rfl, ⟨tn, rfl⟩, ht, h5⟩ := s_ac_eq h1
    have hq : s_mi[271]? = some (9, 1, false, 0, 0, 12) := by decide +kernel
    split at h
    next Ms e1 =>
      obtain ⟨k1, k2⟩ := s_stq_ok hK hq e1
      refine ⟨fun out ho => ?_, fun σ ρ b hok post hp => ?_⟩
      · obtain ⟨N, hN, Os, e3, hO⟩ := s_all_out h out ho
        have q1 := k1 N hN
        have q2 := (s_sm2_ok hK hx hr e3).1 out hO
        exact ⟨Nat.le_trans q1.1 q2.1, Nat.le_trans q1.2 q2.2⟩
      · refine h_meth hq (by rw [s_sl_eq]; exact (show (5 : Nat) ≤ 9 by decide)) ?_
        intro P hpost hcl
        rw [← s_args_eq]
        refine k2 P hcl σ ρ b hok (fun N hN σ' ρ' a1 a2 a3 => ?_)
        obtain ⟨Os, e3, hO⟩ := s_all_in h N hN
        have eL : s_cL σ' ρ' b [(0, (5, tn)), (1, (2, 1)), (2, (2, 2)), (3, (2, 3)), (4, (2, 4))] = [(0, .ref (ρ' tn.toNat)), (1, .int (Int32.ofInt (xs 1))), (2, .int (Int32.ofInt (xs 2))), (3, .int (Int32.ofInt (xs 3))), (4, .int (Int32.ofInt (xs 4)))] := by
          show [(0, Value.ref (ρ' tn.toNat)), (1, .int (Int32.ofInt (σ' 1))), (2, .int (Int32.ofInt (σ' 2))), (3, .int (Int32.ofInt (σ' 3))), (4, .int (Int32.ofInt (σ' 4)))] = _
          rw [a3.2.2.2 1 (by decide), a3.2.2.2 2 (by decide), a3.2.2.2 3 (by decide), a3.2.2.2 4 (by decide)]
        rw [eL]
        have q1 := k1 N hN
        exact (s_sm2_ok hK hx hr e3).2 P hcl post hpost σ' ρ' b a3 (fun out ho σ2 ρ2 b1 b2 b3 => hp out (hO out ho) σ2 ρ2 (fun i hi => by rw [b1 i (by omega), a1 i hi]) (fun i hi => by rw [b2 i (by omega), a2 i hi]) b3)
    next => cases h
  next => cases h
theorem s_ux_ok (hK : s_CS xs s_mi K (g_run (d + 1))) (hx : s_x32 xs) {r : Int} (hr : un_r xs r) {as : List s_V} {M : s_M} {outs : List (Option s_V × s_M)} (h : s_ux K r as M = some outs) : s_CT xs (d + 1 + 1) 163 as M outs := by
  unfold s_ux at h
  split at h
  next t rest =>
    replace h := s_bif h
    obtain ⟨h1, h⟩ := h
    obtain ⟨rfl, ⟨tn, rfl⟩, ht, h5⟩ := s_ac_eq h1
    have hq : s_mi[163]? = some (9, 1, false, 0, 0, 11) := by decide +kernel
    have hfull := h_full hq (t := s_c_163) rfl
    have ea : ∀ (σ : Nat → Int) (ρ : Nat → Nat) (b : Nat), s_ok xs σ M → ((5, tn) :: s_a2).map (s_cv σ ρ b) = [.ref (ρ tn.toNat), .int (Int32.ofInt (xs 1)), .int (Int32.ofInt (xs 2))] := by
      intro σ ρ b hok
      show [Value.ref (ρ tn.toNat), .int (Int32.ofInt (σ 1)), .int (Int32.ofInt (σ 2))] = _
      rw [hok.2.2.2 1 (by decide), hok.2.2.2 2 (by decide)]
    cases er : decide (r = -1)
    · rw [er, cond_false] at h
      have er := of_decide_eq_false er
      split at h
      next n1 n2 M2 g =>
        split at h
        next Ms e1 =>
          cases h
          obtain ⟨l1, l2, l3, l4, l5, -⟩ := s_grow2_len g
          obtain ⟨k1, k2⟩ := s_stq_ok hK hq e1
          refine ⟨fun out ho => ?_, fun σ ρ b hok post hp => ?_⟩
          · obtain ⟨N, hN, rfl⟩ := s_ans_in.mp ho
            have := k1 N hN
            exact ⟨Nat.le_trans l4 this.1, by rw [← l5]; exact this.2⟩
          · rw [ea σ ρ b hok]
            refine h_meth hq (by show 3 ≤ 9; decide) ?_
            intro P hpost hcl
            refine un_x hcl hfull (fun hin => ?_) (fun hn => ?_)
            · have hin' := hin
              rw [hx, hx] at hin'
              refine un_xl hcl hfull hin (fun th he best hb => ?_) 99 0 rfl none _ _ (Or.inl rfl) rfl rfl
              rw [hx, hx, (hr.1 hin').1] at hb
              have hbest : best = Int32.ofInt r := by rw [← hb, Int32.ofInt_toInt]
              subst hbest
              have b6 := Int64.le_toInt th
              have b7 := Int64.toInt_lt th
              have b8 := Int64.le_toInt he
              have b9 := Int64.toInt_lt he
              obtain ⟨σ', a1, a2, a3, a4, a5⟩ := s_grow2_ok g hok (z1 := th.toInt) (z2 := he.toInt) (by unfold s_lo64 s_hi64; omega) (by unfold s_lo64 s_hi64; omega)
              have key := k2 P hcl σ' ρ b a2 (fun N hN σ2 ρ2 b1 b2 b3 => ?_)
              · have eL : s_cL σ' ρ b [(4, (0, 100)), (3, (0, r)), (7, (3, (n1 : Int))), (5, (3, (n2 : Int))), (0, (5, tn)), (1, (2, 1)), (2, (2, 2))] = un_L (.ref (ρ tn.toNat)) (Int32.ofInt (xs 1)) (Int32.ofInt (xs 2)) (some (th, he)) (Int32.ofInt 100) (Int32.ofInt r) := by
                  show [(4, Value.int (Int32.ofInt 100)), (3, .int (Int32.ofInt r)), (7, .long (Int64.ofInt (σ' (n1 : Int).toNat))), (5, .long (Int64.ofInt (σ' (n2 : Int).toNat))), (0, .ref (ρ tn.toNat)), (1, .int (Int32.ofInt (σ' 1))), (2, .int (Int32.ofInt (σ' 2)))] = _
                  rw [Int.toNat_natCast, Int.toNat_natCast, a3, a4, s_lz, s_lz, a2.2.2.2 1 (by decide), a2.2.2.2 2 (by decide)]
                  rfl
                rw [eL, a5] at key
                exact key
              · refine t_at_ok hcl hfull (pc := 151) (n := 1) (pc' := 152) (L' := s_cL σ2 ρ2 b [(4, (0, 100)), (3, (0, r)), (7, (3, (n1 : Int))), (5, (3, (n2 : Int))), (0, (5, tn)), (1, (2, 1)), (2, (2, 2))]) (st' := [.int (Int32.ofInt r)]) rfl ?_
                refine hpost _ (h_iret hq rfl hfull rfl (Nat.le_refl _) (Nat.le_refl _) ?_)
                exact hp (some (0, r), N) (s_ans_in.mpr ⟨N, hN, rfl⟩) σ2 ρ2 (fun i hi => by rw [b1 i (by omega), a1 i hi]) (fun i hi => b2 i (by rw [l5]; exact hi)) b3
            · rw [hx, hx] at hn
              exact absurd (hr.2 hn) er
        next => cases h
      next => cases h
    · rw [er, cond_true] at h
      have er := of_decide_eq_true er
      cases h
      refine ⟨fun out ho => ?_, fun σ ρ b hok post hp => ?_⟩
      · obtain ⟨N, hN, rfl⟩ := s_ans_in.mp ho
        rw [List.mem_singleton] at hN
        subst hN
        exact ⟨Nat.le_refl _, Nat.le_refl _⟩
      · rw [ea σ ρ b hok]
        refine h_meth hq (by show 3 ≤ 9; decide) ?_
        intro P hpost hcl
        refine un_x hcl hfull (fun hin => ?_) (fun hn => ?_)
        · rw [hx, hx] at hin
          exact absurd er (hr.1 hin).2
        · exact hpost _ (h_iret hq rfl hfull rfl (Nat.le_refl _) (Nat.le_refl _) (hp (some (0, -1), M) (s_ans_in.mpr ⟨M, List.mem_singleton.mpr rfl, rfl⟩) σ ρ (fun _ _ => rfl) (fun _ _ => rfl) hok))
  next => cases h
theorem s_um2_ok (hK : s_CS xs s_mi K (g_run (d + 1))) (hx : s_x32 xs) {r : Int} (hr : un_r xs r) {tn : Int} {M : s_M} {outs : List (Option s_V × s_M)} (h : s_um2 K r (5, tn) M = some outs) :
    (∀ out ∈ outs, M.1.length ≤ out.2.1.length ∧ M.2.2.2.length ≤ out.2.2.2.2.length) ∧ ∀ P : g_S → Prop, (∀ S, g_pre (g_run (d + 1)) 12 9 false 0 0 (g_by 272) P S → P S) → ∀ post : Option Value → g_H → Prop, (∀ S, g_end (g_by 272) (g_rt 272) 0 0 post S → P S) → ∀ (σ : Nat → Int) (ρ : Nat → Nat) (b : Nat), s_ok xs σ M →
      (∀ out ∈ outs, ∀ (σ' : Nat → Int) (ρ' : Nat → Nat), (∀ i, i < M.1.length → σ' i = σ i) → (∀ i, i < M.2.2.2.length → ρ' i = ρ i) → s_ok xs σ' out.2 → post (out.1.map (s_cv σ' ρ' b)) (s_ch σ' ρ' b 0 out.2.2.2.2)) →
      P (5, [(0, .ref (ρ tn.toNat)), (1, .int (Int32.ofInt (xs 1))), (2, .int (Int32.ofInt (xs 2)))], [], 0, 0, s_ch σ ρ b 0 M.2.2.2) := by
  have hq : s_mi[272]? = some (9, 1, false, 0, 0, 12) := by decide +kernel
  have hfull := h_full hq (t := s_c_272) rfl
  unfold s_um2 at h
  cases er : decide (r = -1)
  · rw [er, cond_false] at h
    have er := of_decide_eq_false er
    split at h
    next n1 n2 M2 g =>
      split at h
      next Ms Ns e1 e2 =>
        cases h
        obtain ⟨l1, l2, l3, l4, l5, -⟩ := s_grow2_len g
        obtain ⟨k1, k2⟩ := s_stq_ok hK hq e1
        obtain ⟨k3, k4⟩ := s_stq_ok hK hq e2
        refine ⟨fun out ho => ?_, fun P hcl post hpost σ ρ b hok hp => ?_⟩
        · obtain ⟨N, hN, rfl⟩ := s_ans_in.mp ho
          have : M2.1.length ≤ N.1.length ∧ M2.2.2.2.length ≤ N.2.2.2.length := (List.mem_append.mp hN).elim (k1 N) (k3 N)
          exact ⟨Nat.le_trans l4 this.1, by rw [← l5]; exact this.2⟩
        · refine un_m hcl hfull (fun hin => ?_) (fun hn => ?_)
          · have hin' := hin
            rw [hx, hx] at hin'
            refine un_ml hcl hfull hin (fun sh off bo best hb => ?_) 99 0 rfl none _ _ _ (Or.inl rfl) rfl rfl (un_b0 hin)
            rw [hx, hx, (hr.1 hin').1] at hb
            have hbest : best = Int32.ofInt r := by rw [← hb, Int32.ofInt_toInt]
            subst hbest
            have b6 := Int64.le_toInt off
            have b7 := Int64.toInt_lt off
            have b8 := Int64.le_toInt bo
            have b9 := Int64.toInt_lt bo
            obtain ⟨σ', a1, a2, a3, a4, a5⟩ := s_grow2_ok g hok (z1 := off.toInt) (z2 := bo.toInt) (by unfold s_lo64 s_hi64; omega) (by unfold s_lo64 s_hi64; omega)
            cases sh
            · have key := k2 P hcl σ' ρ b a2 (fun N hN σ2 ρ2 b1 b2 b3 => ?_)
              · have eL : s_cL σ' ρ b [(6, (0, 100)), (7, (3, (n1 : Int))), (4, (3, (n2 : Int))), (3, (0, r)), (0, (5, tn)), (1, (2, 1)), (2, (2, 2))] = un_N (.ref (ρ tn.toNat)) (Int32.ofInt (xs 1)) (Int32.ofInt (xs 2)) (some (false, off)) (Int32.ofInt 100) bo (Int32.ofInt r) := by
                  show [(6, Value.int (Int32.ofInt 100)), (7, .long (Int64.ofInt (σ' (n1 : Int).toNat))), (4, .long (Int64.ofInt (σ' (n2 : Int).toNat))), (3, .int (Int32.ofInt r)), (0, .ref (ρ tn.toNat)), (1, .int (Int32.ofInt (σ' 1))), (2, .int (Int32.ofInt (σ' 2)))] = _
                  rw [Int.toNat_natCast, Int.toNat_natCast, a3, a4, s_lz, s_lz, a2.2.2.2 1 (by decide), a2.2.2.2 2 (by decide)]
                  rfl
                rw [eL, a5] at key
                exact key
              · refine t_at_ok hcl hfull (pc := 140) (n := 1) (pc' := 141) (L' := s_cL σ2 ρ2 b [(6, (0, 100)), (7, (3, (n1 : Int))), (4, (3, (n2 : Int))), (3, (0, r)), (0, (5, tn)), (1, (2, 1)), (2, (2, 2))]) (st' := [.int (Int32.ofInt r)]) rfl ?_
                refine hpost _ (h_iret hq rfl hfull rfl (Nat.le_refl _) (Nat.le_refl _) ?_)
                exact hp (some (0, r), N) (s_ans_in.mpr ⟨N, List.mem_append_left _ hN, rfl⟩) σ2 ρ2 (fun i hi => by rw [b1 i (by omega), a1 i hi]) (fun i hi => b2 i (by rw [l5]; exact hi)) b3
            · have key := k4 P hcl σ' ρ b a2 (fun N hN σ2 ρ2 b1 b2 b3 => ?_)
              · have eL : s_cL σ' ρ b [(6, (0, 100)), (4, (3, (n2 : Int))), (3, (0, r)), (7, (3, (n1 : Int))), (0, (5, tn)), (1, (2, 1)), (2, (2, 2))] = un_N (.ref (ρ tn.toNat)) (Int32.ofInt (xs 1)) (Int32.ofInt (xs 2)) (some (true, off)) (Int32.ofInt 100) bo (Int32.ofInt r) := by
                  show [(6, Value.int (Int32.ofInt 100)), (4, .long (Int64.ofInt (σ' (n2 : Int).toNat))), (3, .int (Int32.ofInt r)), (7, .long (Int64.ofInt (σ' (n1 : Int).toNat))), (0, .ref (ρ tn.toNat)), (1, .int (Int32.ofInt (σ' 1))), (2, .int (Int32.ofInt (σ' 2)))] = _
                  rw [Int.toNat_natCast, Int.toNat_natCast, a3, a4, s_lz, s_lz, a2.2.2.2 1 (by decide), a2.2.2.2 2 (by decide)]
                  rfl
                rw [eL, a5] at key
                exact key
              · refine t_at_ok hcl hfull (pc := 140) (n := 1) (pc' := 141) (L' := s_cL σ2 ρ2 b [(6, (0, 100)), (4, (3, (n2 : Int))), (3, (0, r)), (7, (3, (n1 : Int))), (0, (5, tn)), (1, (2, 1)), (2, (2, 2))]) (st' := [.int (Int32.ofInt r)]) rfl ?_
                refine hpost _ (h_iret hq rfl hfull rfl (Nat.le_refl _) (Nat.le_refl _) ?_)
                exact hp (some (0, r), N) (s_ans_in.mpr ⟨N, List.mem_append_right _ hN, rfl⟩) σ2 ρ2 (fun i hi => by rw [b1 i (by omega), a1 i hi]) (fun i hi => b2 i (by rw [l5]; exact hi)) b3
          · rw [hx, hx] at hn
            exact absurd (hr.2 hn) er
      next => cases h
    next => cases h
  · rw [er, cond_true] at h
    have er := of_decide_eq_true er
    cases h
    refine ⟨fun out ho => ?_, fun P hcl post hpost σ ρ b hok hp => ?_⟩
    · obtain ⟨N, hN, rfl⟩ := s_ans_in.mp ho
      rw [List.mem_singleton] at hN
      subst hN
      exact ⟨Nat.le_refl _, Nat.le_refl _⟩
    · refine un_m hcl hfull (fun hin => ?_) (fun hn => ?_)
      · rw [hx, hx] at hin
        exact absurd er (hr.1 hin).2
      · exact hpost _ (h_iret hq rfl hfull rfl (Nat.le_refl _) (Nat.le_refl _) (hp (some (0, -1), M) (s_ans_in.mpr ⟨M, List.mem_singleton.mpr rfl, rfl⟩) σ ρ (fun _ _ => rfl) (fun _ _ => rfl) hok))
theorem s_um_ok (hK : s_CS xs s_mi K (g_run (d + 1))) (hx : s_x32 xs) {r : Int} (hr : un_r xs r) {as : List s_V} {M : s_M} {outs : List (Option s_V × s_M)} (h : s_um K r as M = some outs) : s_CT xs (d + 1 + 1) 272 as M outs := by
  unfold s_um at h
  split at h
  next t rest =>
    replace h := s_bif h
    obtain ⟨h1, h⟩ := h
    obtain ⟨rfl, ⟨tn, rfl⟩, ht, h5⟩ := s_ac_eq h1
    have hq : s_mi[272]? = some (9, 1, false, 0, 0, 12) := by decide +kernel
    split at h
    next Ms e1 =>
      obtain ⟨k1, k2⟩ := s_stq_ok hK hq e1
      refine ⟨fun out ho => ?_, fun σ ρ b hok post hp => ?_⟩
      · obtain ⟨N, hN, Os, e3, hO⟩ := s_all_out h out ho
        have q1 := k1 N hN
        have q2 := (s_um2_ok hK hx hr e3).1 out hO
        exact ⟨Nat.le_trans q1.1 q2.1, Nat.le_trans q1.2 q2.2⟩
      · refine h_meth hq (by rw [s_sl_eq]; exact (show (3 : Nat) ≤ 9 by decide)) ?_
        intro P hpost hcl
        rw [← s_args_eq]
        refine k2 P hcl σ ρ b hok (fun N hN σ' ρ' a1 a2 a3 => ?_)
        obtain ⟨Os, e3, hO⟩ := s_all_in h N hN
        have eL : s_cL σ' ρ' b [(0, (5, tn)), (1, (2, 1)), (2, (2, 2))] = [(0, .ref (ρ' tn.toNat)), (1, .int (Int32.ofInt (xs 1))), (2, .int (Int32.ofInt (xs 2)))] := by
          show [(0, Value.ref (ρ' tn.toNat)), (1, .int (Int32.ofInt (σ' 1))), (2, .int (Int32.ofInt (σ' 2)))] = _
          rw [a3.2.2.2 1 (by decide), a3.2.2.2 2 (by decide)]
        rw [eL]
        have q1 := k1 N hN
        exact (s_um2_ok hK hx hr e3).2 P hcl post hpost σ' ρ' b a3 (fun out ho σ2 ρ2 b1 b2 b3 => hp out (hO out ho) σ2 ρ2 (fun i hi => by rw [b1 i (by omega), a1 i hi]) (fun i hi => by rw [b2 i (by omega), a2 i hi]) b3)
    next => cases h
  next => cases h
end T48
