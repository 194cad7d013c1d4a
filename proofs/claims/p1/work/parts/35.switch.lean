-- the law from its switch on, number by number
theorem s_ok_set {xs σ : Nat → Int} {E : s_E} {R : s_R} {B : s_B} {H : List s_C} {k : Nat} {lo hi : Int} (h : s_ok xs σ (E, R, B, H)) (h1 : lo ≤ σ k) (h2 : σ k ≤ hi) : s_ok xs σ (E.set k (lo, hi), R, B, H) := by
  refine ⟨fun i r hi' => ?_, h.2⟩
  have hi' : (E.set k (lo, hi))[i]? = some r := hi'
  by_cases e : k = i
  · subst e
    rw [List.getElem?_set_self'] at hi'
    cases e2 : E[k]? with
    | none => rw [e2] at hi'; cases hi'
    | some q =>
      rw [e2] at hi'
      cases hi'
      exact ⟨h1, h2⟩
  · rw [List.getElem?_set_ne e] at hi'
    exact h.1 i r hi'
set_option maxRecDepth 100000 in
theorem s_c39_hd : (s_c39.take 1).all (s_okI code 13) = true := by decide +kernel
theorem s_c39_ok : ∀ r ∈ s_c39, s_okI code 13 r = true := by
  intro r hr
  cases e : s_jump s_cl 39 with
  | none =>
    unfold s_c39 at hr
    rw [e] at hr
    cases hr
  | some c =>
    obtain ⟨-, hm⟩ := s_jump_mem e
    cases c with
    | nil =>
      unfold s_c39 at hr
      rw [e] at hr
      cases hr
    | cons q t =>
      have e2 : s_c39 = (q.1, q.2.1, 25, q.2.2.2) :: t := by
        unfold s_c39
        rw [e]
      rw [e2] at hr
      rcases List.mem_cons.mp hr with h | h
      · have h3 := s_c39_hd
        rw [e2] at h3
        rw [h]
        exact List.all_eq_true.mp h3 _ List.mem_cons_self
      · exact s_cl_ok r (hm r (List.mem_cons_of_mem _ h))
theorem s_pc39 : s_pc s_c39 = 39 := by decide +kernel
section L35
variable {p : Program} {l : Launch} {e : Env} {s : State} {m : MethodId} {below : List Frame} {meth : Method} {c : Code} {b : Nat} {xs : Nat → Int32} {D : va_G} {dA : Nat → ClassId}
abbrev lw_M : s_M := (s_litE, [], [], s_litH)
theorem lw_okr (C0 : lw_At p s m meth c b 5 xs) (hK : g_K4 D dA s) {lo hi : Int} (h : s_okr lo hi = true) {σ : Nat → Int} (ρ : Nat → Nat) (hok : s_ok (lw_xs xs) σ lw_M) (h1 : lo ≤ σ 5) (h2 : σ 5 ≤ hi) (u v : Int) : lw_PP p l e s m below meth c b D dA (s_cX σ ρ b (s_lit u v)) :=
  lw_all C0 hK (X := s_lit lo hi) h s_c39_ok σ ρ (s_ok_set hok h1 h2)
theorem lw_okD (C0 : lw_At p s m meth c b 5 xs) (hK : g_K4 D dA s) {k lo hi : Int} (h : s_okD k lo hi = true) {σ : Nat → Int} (ρ : Nat → Nat) (hok : s_ok (lw_xs xs) σ lw_M) (hk : σ 5 = k) (h1 : lo ≤ σ 1) (h2 : σ 1 ≤ hi) (u v : Int) : lw_PP p l e s m below meth c b D dA (s_cX σ ρ b (s_lit u v)) :=
  lw_all C0 hK (X := s_litD k lo hi) h s_c39_ok σ ρ (s_ok_set (s_ok_set hok (Int.le_of_eq hk.symm) (Int.le_of_eq hk)) h1 h2)
theorem lw_rng {σ : Nat → Int} (hok : s_ok (lw_xs xs) σ lw_M) {k : Nat} (h : s_litE[k]? = some (-2147483648, 2147483647)) : -2147483648 ≤ σ k ∧ σ k ≤ 2147483647 := hok.1 k _ h
set_option maxRecDepth 100000 in
theorem lw_switch (C0 : lw_At p s m meth c b 5 xs) (hK : g_K4 D dA s) {σ : Nat → Int} {ρ : Nat → Nat} (hok : s_ok (lw_xs xs) σ lw_M) (u v : Int)
    (hrest : σ 5 = 6 ∨ σ 5 = 30 ∨ σ 5 = 31 ∨ σ 5 = 49 → lw_PP p l e s m below meth c b D dA (s_cX σ ρ b (s_lit u v))) : lw_PP p l e s m below meth c b D dA (s_cX σ ρ b (s_lit u v)) := by
  obtain ⟨r1, r2⟩ := lw_rng hok (k := 5) (by decide +kernel)
  obtain ⟨r3, r4⟩ := lw_rng hok (k := 1) (by decide +kernel)
  by_cases hlo : σ 5 < 0
  · exact lw_okr C0 hK s_r_lo ρ hok r1 (by omega) u v
  by_cases hhi : 50 ≤ σ 5
  · exact lw_okr C0 hK s_r_hi ρ hok hhi r2 u v
  by_cases h0 : σ 5 = 0
  · exact lw_okr C0 hK s_r_0 ρ hok (Int.le_of_eq h0.symm) (Int.le_of_eq h0) u v
  by_cases h1 : σ 5 = 1
  · exact lw_okr C0 hK s_r_1 ρ hok (Int.le_of_eq h1.symm) (Int.le_of_eq h1) u v
  by_cases h2 : σ 5 = 2
  · exact lw_okr C0 hK s_r_2 ρ hok (Int.le_of_eq h2.symm) (Int.le_of_eq h2) u v
  by_cases h3 : σ 5 = 3
  · exact lw_okr C0 hK s_r_3 ρ hok (Int.le_of_eq h3.symm) (Int.le_of_eq h3) u v
  by_cases h4 : σ 5 = 4
  · exact lw_okr C0 hK s_r_4 ρ hok (Int.le_of_eq h4.symm) (Int.le_of_eq h4) u v
  by_cases h5 : σ 5 = 5
  · exact lw_okr C0 hK s_r_5 ρ hok (Int.le_of_eq h5.symm) (Int.le_of_eq h5) u v
  by_cases h6 : σ 5 = 6
  · exact hrest (by omega)
  by_cases h7 : σ 5 = 7
  · exact lw_okr C0 hK s_r_7 ρ hok (Int.le_of_eq h7.symm) (Int.le_of_eq h7) u v
  by_cases h8 : σ 5 = 8
  · exact lw_okr C0 hK s_r_8 ρ hok (Int.le_of_eq h8.symm) (Int.le_of_eq h8) u v
  by_cases h9 : σ 5 = 9
  · exact lw_okr C0 hK s_r_9 ρ hok (Int.le_of_eq h9.symm) (Int.le_of_eq h9) u v
  by_cases h10 : σ 5 = 10
  · exact lw_okr C0 hK s_r_10 ρ hok (Int.le_of_eq h10.symm) (Int.le_of_eq h10) u v
  by_cases h11 : σ 5 = 11
  · exact lw_okr C0 hK s_r_11 ρ hok (Int.le_of_eq h11.symm) (Int.le_of_eq h11) u v
  by_cases h12 : σ 5 = 12
  · exact lw_okr C0 hK s_r_12 ρ hok (Int.le_of_eq h12.symm) (Int.le_of_eq h12) u v
  by_cases h13 : σ 5 = 13
  · exact lw_okr C0 hK s_r_13 ρ hok (Int.le_of_eq h13.symm) (Int.le_of_eq h13) u v
  by_cases h14 : σ 5 = 14
  · exact lw_okr C0 hK s_r_14 ρ hok (Int.le_of_eq h14.symm) (Int.le_of_eq h14) u v
  by_cases h15 : σ 5 = 15
  · exact lw_okr C0 hK s_r_15 ρ hok (Int.le_of_eq h15.symm) (Int.le_of_eq h15) u v
  by_cases h16 : σ 5 = 16
  · exact lw_okr C0 hK s_r_16 ρ hok (Int.le_of_eq h16.symm) (Int.le_of_eq h16) u v
  by_cases h17 : σ 5 = 17
  · exact lw_okr C0 hK s_r_17 ρ hok (Int.le_of_eq h17.symm) (Int.le_of_eq h17) u v
  by_cases h18 : σ 5 = 18
  · exact lw_okr C0 hK s_r_18 ρ hok (Int.le_of_eq h18.symm) (Int.le_of_eq h18) u v
  by_cases h19 : σ 5 = 19
  · exact lw_okr C0 hK s_r_19 ρ hok (Int.le_of_eq h19.symm) (Int.le_of_eq h19) u v
  by_cases h20 : σ 5 = 20
  · exact lw_okr C0 hK s_r_20 ρ hok (Int.le_of_eq h20.symm) (Int.le_of_eq h20) u v
  by_cases h21 : σ 5 = 21
  · exact lw_okr C0 hK s_r_21 ρ hok (Int.le_of_eq h21.symm) (Int.le_of_eq h21) u v
  by_cases h22 : σ 5 = 22
  · exact lw_okr C0 hK s_r_22 ρ hok (Int.le_of_eq h22.symm) (Int.le_of_eq h22) u v
  by_cases h23 : σ 5 = 23
  · exact lw_okr C0 hK s_r_23 ρ hok (Int.le_of_eq h23.symm) (Int.le_of_eq h23) u v
  by_cases h24 : σ 5 = 24
  · exact lw_okr C0 hK s_r_24 ρ hok (Int.le_of_eq h24.symm) (Int.le_of_eq h24) u v
  by_cases h25 : σ 5 = 25
  · exact lw_okr C0 hK s_r_25 ρ hok (Int.le_of_eq h25.symm) (Int.le_of_eq h25) u v
  by_cases h26 : σ 5 = 26
  · exact lw_okr C0 hK s_r_26 ρ hok (Int.le_of_eq h26.symm) (Int.le_of_eq h26) u v
  by_cases h27 : σ 5 = 27
  · exact lw_okr C0 hK s_r_27 ρ hok (Int.le_of_eq h27.symm) (Int.le_of_eq h27) u v
  by_cases h28 : σ 5 = 28
  · exact lw_okr C0 hK s_r_28 ρ hok (Int.le_of_eq h28.symm) (Int.le_of_eq h28) u v
  by_cases h29 : σ 5 = 29
  · exact lw_okr C0 hK s_r_29 ρ hok (Int.le_of_eq h29.symm) (Int.le_of_eq h29) u v
  by_cases h30 : σ 5 = 30
  · exact hrest (by omega)
  by_cases h31 : σ 5 = 31
  · exact hrest (by omega)
  by_cases h32 : σ 5 = 32
  · exact lw_okr C0 hK s_r_32 ρ hok (Int.le_of_eq h32.symm) (Int.le_of_eq h32) u v
  by_cases h33 : σ 5 = 33
  · exact lw_okr C0 hK s_r_33 ρ hok (Int.le_of_eq h33.symm) (Int.le_of_eq h33) u v
  by_cases h34 : σ 5 = 34
  · exact lw_okr C0 hK s_r_34 ρ hok (Int.le_of_eq h34.symm) (Int.le_of_eq h34) u v
  by_cases h35 : σ 5 = 35
  · exact lw_okr C0 hK s_r_35 ρ hok (Int.le_of_eq h35.symm) (Int.le_of_eq h35) u v
  by_cases h36 : σ 5 = 36
  · exact lw_okr C0 hK s_r_36 ρ hok (Int.le_of_eq h36.symm) (Int.le_of_eq h36) u v
  by_cases h37 : σ 5 = 37
  · by_cases qlo : σ 1 ≤ -1
    · exact lw_okD C0 hK s_dm_lo ρ hok h37 (by omega) qlo u v
    by_cases q0 : σ 1 ≤ 27
    · exact lw_okD C0 hK s_dm_0 ρ hok h37 (by omega) q0 u v
    by_cases q1 : σ 1 ≤ 55
    · exact lw_okD C0 hK s_dm_1 ρ hok h37 (by omega) q1 u v
    by_cases q2 : σ 1 ≤ 83
    · exact lw_okD C0 hK s_dm_2 ρ hok h37 (by omega) q2 u v
    by_cases q3 : σ 1 ≤ 111
    · exact lw_okD C0 hK s_dm_3 ρ hok h37 (by omega) q3 u v
    by_cases q4 : σ 1 ≤ 139
    · exact lw_okD C0 hK s_dm_4 ρ hok h37 (by omega) q4 u v
    by_cases q5 : σ 1 ≤ 167
    · exact lw_okD C0 hK s_dm_5 ρ hok h37 (by omega) q5 u v
    by_cases q6 : σ 1 ≤ 195
    · exact lw_okD C0 hK s_dm_6 ρ hok h37 (by omega) q6 u v
    by_cases q7 : σ 1 ≤ 222
    · exact lw_okD C0 hK s_dm_7 ρ hok h37 (by omega) q7 u v
    exact lw_okD C0 hK s_dm_hi ρ hok h37 (by omega) r4 u v
  by_cases h38 : σ 5 = 38
  · exact lw_okr C0 hK s_r_38 ρ hok (Int.le_of_eq h38.symm) (Int.le_of_eq h38) u v
  by_cases h39 : σ 5 = 39
  · exact lw_okr C0 hK s_r_39 ρ hok (Int.le_of_eq h39.symm) (Int.le_of_eq h39) u v
  by_cases h40 : σ 5 = 40
  · exact lw_okr C0 hK s_r_40 ρ hok (Int.le_of_eq h40.symm) (Int.le_of_eq h40) u v
  by_cases h41 : σ 5 = 41
  · exact lw_okr C0 hK s_r_41 ρ hok (Int.le_of_eq h41.symm) (Int.le_of_eq h41) u v
  by_cases h42 : σ 5 = 42
  · exact lw_okr C0 hK s_r_42 ρ hok (Int.le_of_eq h42.symm) (Int.le_of_eq h42) u v
  by_cases h43 : σ 5 = 43
  · exact lw_okr C0 hK s_r_43 ρ hok (Int.le_of_eq h43.symm) (Int.le_of_eq h43) u v
  by_cases h44 : σ 5 = 44
  · exact lw_okr C0 hK s_r_44 ρ hok (Int.le_of_eq h44.symm) (Int.le_of_eq h44) u v
  by_cases h45 : σ 5 = 45
  · by_cases q0 : σ 1 ≤ -1
    · exact lw_okD C0 hK s_kp_0 ρ hok h45 (by omega) q0 u v
    by_cases q1 : σ 1 ≤ 0
    · exact lw_okD C0 hK s_kp_1 ρ hok h45 (by omega) q1 u v
    by_cases q2 : σ 1 ≤ 1
    · exact lw_okD C0 hK s_kp_2 ρ hok h45 (by omega) q2 u v
    by_cases q3 : σ 1 ≤ 2
    · exact lw_okD C0 hK s_kp_3 ρ hok h45 (by omega) q3 u v
    by_cases q4 : σ 1 ≤ 3
    · exact lw_okD C0 hK s_kp_4 ρ hok h45 (by omega) q4 u v
    exact lw_okD C0 hK s_kp_5 ρ hok h45 (by omega) r4 u v
  by_cases h46 : σ 5 = 46
  · exact lw_okr C0 hK s_r_46 ρ hok (Int.le_of_eq h46.symm) (Int.le_of_eq h46) u v
  by_cases h47 : σ 5 = 47
  · exact lw_okr C0 hK s_r_47 ρ hok (Int.le_of_eq h47.symm) (Int.le_of_eq h47) u v
  by_cases h48 : σ 5 = 48
  · exact lw_okr C0 hK s_r_48 ρ hok (Int.le_of_eq h48.symm) (Int.le_of_eq h48) u v
  by_cases h49 : σ 5 = 49
  · exact hrest (by omega)
  omega
theorem lw_five (C0 : lw_At p s m meth c b 5 xs) (hK : g_K4 D dA s) (hrest : ∀ (σ : Nat → Int) (ρ : Nat → Nat), s_ok (lw_xs xs) σ lw_M → σ 5 = 6 ∨ σ 5 = 30 ∨ σ 5 = 31 ∨ σ 5 = 49 → lw_PP p l e s m below meth c b D dA (s_cX σ ρ b (s_lit 0 0))) : lw_PP p l e s m below meth c b D dA (0, [(0, .ref b)], [], 0, 0, []) := by
  obtain ⟨σ, hok⟩ := lw_ok0 (xs := xs)
  have hs := s_st
  unfold s_isl at hs
  split at hs
  next co L st cn sn E R B H e1 =>
    simp only [Bool.and_eq_true, Nat.beq_eq, decide_eq_true_eq, List.isEmpty_iff] at hs
    obtain ⟨h1, h2, h3, h4, h5, h6, h7, h8, h9⟩ := hs
    have h9 := s_eqH_eq h9
    subst h2 h3 h4 h5 h6 h7 h8 h9
    obtain ⟨-, k⟩ := lw_run (l := l) (e := e) (below := below) C0 hK e1 s_cl_ok
    refine k σ (fun _ => 0) hok (fun Y hY σ' ρ' _ _ hok' => ?_)
    rw [List.mem_singleton] at hY
    subst hY
    have e2 : s_cX σ' ρ' b (co, s_litL, [(2, 5)], s_litC.1, s_litC.2, (s_litE, [], [], s_litH)) = s_cX σ' ρ' b (s_lit 0 0) := by
      show (s_pc co, _) = (s_pc s_c39, _)
      rw [h1, s_pc39]
      rfl
    rw [e2]
    exact lw_switch C0 hK hok' 0 0 (hrest σ' ρ' hok')
  next => cases hs
set_option maxRecDepth 100000 in
theorem lw_fewer {L : Nat} (C0 : lw_At p s m meth c b L xs) (hL : L < 5) (hK : g_K4 D dA s) : lw_PP p l e s m below meth c b D dA (0, [(0, .ref b)], [], 0, 0, []) := by
  obtain ⟨σ, hok⟩ := lw_ok0 (xs := xs)
  have h : ∀ n, s_oks (n + 1) = true → L = n → lw_PP p l e s m below meth c b D dA (0, [(0, .ref b)], [], 0, 0, []) := by
    intro n hn e1
    subst e1
    have hz : lw_PP p l e s m below meth c b D dA (s_cX σ (fun _ => 0) b s_X0) := lw_all C0 hK hn s_cl_ok σ (fun _ => 0) hok
    exact hz
  by_cases e0 : L = 0
  · exact h 0 s_sh0 e0
  by_cases e1 : L = 1
  · exact h 1 s_sh1 e1
  by_cases e2 : L = 2
  · exact h 2 s_sh2 e2
  by_cases e3 : L = 3
  · exact h 3 s_sh3 e3
  exact h 4 s_sh4 (by omega)
end L35
