-- of and row of the class: an answer, or just before the throw
theorem iv_lreturn {cc : ByteArray} {o pc len kd a k : Nat} {v : Int} {ins : Instr} (hI : s_okI cc o (pc, len, 41, kd, a, k, v, ins) = true) : decode cc pc = .ok (.lreturn, 1) := by
  obtain ⟨⟨n, hd, hlen, hne⟩, hQ, -⟩ := s_okI_eq hI (by decide)
  have hi : ins = .lreturn := of_decide_eq_true hQ
  subst hi
  have := hne (by decide)
  rw [this] at hd
  exact hd
theorem y_isn_in : ∀ {n : Nat} {l : List Nat}, y_isn n l = true → n ∈ l
  | _, [], h => by cases h
  | n, k :: l, h => by
    rw [y_isn] at h
    cases e : Nat.beq k n
    · rw [e] at h
      exact List.mem_cons_of_mem _ (y_isn_in h)
    · rw [Nat.beq_eq] at e
      subst e
      exact List.mem_cons_self
theorem iv_o208R (A : Nat → Nat) (h : g_H) (m1 m2 : Int32) {W : y_W} (hI : iv_iW A W h) : ∀ P : g_S → Prop, (∀ S, g_end (g_by 208) (g_rt 208) 0 0 (fun r h' => (∃ v, r = some (.int v)) ∧ iv_xW A W h h') S → P S) → (∀ L h', iv_xW A W h h' → P (11, L, [], 0, 0, h')) → (∀ L h', iv_xW A W h h' → P (114, L, [], 0, 0, h')) → (∀ S, g_pre (g_run 50) 11 3 false 0 0 (g_by 208) P S → P S) → P (0, lv_args 0 [.ref (A 0), .int m1, .int m2], [], 0, 0, h) := by
  intro P hend h11 h114 hcl
  obtain ⟨q1, q2, q3, q4, q5⟩ := s_mi_ok 208 (3, 1, false, 0, 0, 11) (by decide +kernel)
  obtain ⟨c1, c2⟩ := s_codes_ok 208 (3, 1, false, 0, 0, 11) (by decide +kernel)
  rw [show s_codes.getD 208 [] = s_c_208 from rfl] at c1 c2
  have q3 : g_rt 208 = some .int := q3
  obtain ⟨⟨β, hH⟩, hW, M, hM, hInv⟩ := hI
  have hH := y_ro_fwd y_Rr_ro hH
  have hb := iv_o208r_ok
  unfold iv_o208r at hb
  split at hb
  next ls el =>
    obtain ⟨k1, k2⟩ := y_run_ok (φ := iv_ct h) (P := P) hcl y_Rr_ok s_ft_ok s_mi_ok (y_Kr_ok 50) c2 1000 [] _ ls el c2 (fun g hg => by cases hg)
    have key := k2 W β h (lv_args 0 [.ref (A 0), .int m1, .int m2]) [] hH (fun q hq => ?_) trivial (fun g hg => by cases hg) (fun Y hY => ?_)
    · rw [show s_pc s_c_208 = 0 from rfl] at key
      exact key
    · have hq : q ∈ [((0, (2, 0, 0, 0, 0, 0, 0)) : Nat × y_V), (1, (0, -2147483648, 2147483647, 0, 0, 0, 0)), (2, (0, -2147483648, 2147483647, 0, 0, 0, 0))] := hq
      simp only [List.mem_cons, List.not_mem_nil, or_false] at hq
      rcases hq with rfl | rfl | rfl
      · exact iv_gL (by decide) (List.mem_cons_self) ⟨0, A 0, rfl, hW 0 0 rfl⟩
      · exact iv_gL (by decide) (List.mem_cons_of_mem _ List.mem_cons_self) ⟨m1, rfl, Int32.le_toInt m1, by have := Int32.toInt_lt m1; show m1.toInt ≤ 2147483647; omega, fun h => absurd rfl h, fun h => absurd rfl h⟩
      · exact iv_gL (by decide) (List.mem_cons_of_mem _ (List.mem_cons_of_mem _ List.mem_cons_self)) ⟨m2, rfl, Int32.le_toInt m2, by have := Int32.toInt_lt m2; show m2.toInt ≤ 2147483647; omega, fun h => absurd rfl h, fun h => absurd rfl h⟩
    · have hbY := List.all_eq_true.mp hb Y hY
      have hYI := k1 Y hY
      intro W' β' h1 Ls sts hWW hb9 hH1 hL1 hS1
      obtain ⟨c9, L, st⟩ := Y
      cases c9 with
      | nil => cases hbY
      | cons r t =>
        unfold iv_oE at hbY
        dsimp only at hbY
        have hI1 : iv_xW A W h h1 := iv_backR y_Rr_ro hW hM hInv hWW hH1
        cases e26 : y_isn r.1 [11, 114]
        · rw [e26, cond_false] at hbY
          split at hbY
          next v =>
            simp only [Bool.and_eq_true, Nat.beq_eq] at hbY
            obtain ⟨r1, v1⟩ := hbY
            cases sts with
            | nil => exact hS1.elim
            | cons x xs =>
              cases xs with
              | cons _ _ => exact hS1.2.elim
              | nil =>
                obtain ⟨⟨k, lo, hi, rq⟩, cp⟩ := v
                have v1 : k = 0 := v1
                subst v1
                obtain ⟨⟨n, rfl, -, -, -⟩, -⟩ := hS1.1
                have hrI := hYI r List.mem_cons_self
                obtain ⟨pc, len, q9, kd, a, k9, v0, ins⟩ := r
                have r1 : q9 = 40 := r1
                subst r1
                exact hend _ ⟨Nat.le_refl _, Nat.le_refl _, Or.inl ⟨n, .int, iv_ireturn hrI, q3, rfl, rfl, ⟨n, rfl⟩, hI1⟩⟩
          next => cases hbY
        · rw [e26, cond_true, List.isEmpty_iff] at hbY
          subst hbY
          cases sts with
          | cons _ _ => exact hS1.elim
          | nil =>
            have hpc := y_isn_in e26
            simp only [List.mem_cons, List.not_mem_nil, or_false] at hpc
            show P (r.1, Ls, [], 0, 0, h1)
            rcases hpc with hpc | hpc
            · rw [hpc]
              exact h11 _ _ hI1
            · rw [hpc]
              exact h114 _ _ hI1
  next => cases hb
theorem iv_o209R (A : Nat → Nat) (h : g_H) (m1 : Int32) {W : y_W} (hI : iv_iW A W h) : ∀ P : g_S → Prop, (∀ S, g_end (g_by 209) (g_rt 209) 0 0 (fun r h' => (∃ v, r = some (.long v)) ∧ iv_xW A W h h') S → P S) → (∀ L h', iv_xW A W h h' → P (11, L, [], 0, 0, h')) → (∀ S, g_pre (g_run 50) 11 2 false 0 0 (g_by 209) P S → P S) → P (0, lv_args 0 [.ref (A 0), .int m1], [], 0, 0, h) := by
  intro P hend h11 hcl
  obtain ⟨q1, q2, q3, q4, q5⟩ := s_mi_ok 209 (2, 3, false, 0, 0, 11) (by decide +kernel)
  obtain ⟨c1, c2⟩ := s_codes_ok 209 (2, 3, false, 0, 0, 11) (by decide +kernel)
  rw [show s_codes.getD 209 [] = s_c_209 from rfl] at c1 c2
  have q3 : g_rt 209 = some .long := q3
  obtain ⟨⟨β, hH⟩, hW, M, hM, hInv⟩ := hI
  have hH := y_ro_fwd y_Rr_ro hH
  have hb := iv_o209r_ok
  unfold iv_o209r at hb
  split at hb
  next ls el =>
    obtain ⟨k1, k2⟩ := y_run_ok (φ := iv_ct h) (P := P) hcl y_Rr_ok s_ft_ok s_mi_ok (y_Kr_ok 50) c2 1000 [] _ ls el c2 (fun g hg => by cases hg)
    have key := k2 W β h (lv_args 0 [.ref (A 0), .int m1]) [] hH (fun q hq => ?_) trivial (fun g hg => by cases hg) (fun Y hY => ?_)
    · rw [show s_pc s_c_209 = 0 from rfl] at key
      exact key
    · have hq : q ∈ [((0, (2, 0, 0, 0, 0, 0, 0)) : Nat × y_V), (1, (0, -2147483648, 2147483647, 0, 0, 0, 0))] := hq
      simp only [List.mem_cons, List.not_mem_nil, or_false] at hq
      rcases hq with rfl | rfl
      · exact iv_gL (by decide) (List.mem_cons_self) ⟨0, A 0, rfl, hW 0 0 rfl⟩
      · exact iv_gL (by decide) (List.mem_cons_of_mem _ List.mem_cons_self) ⟨m1, rfl, Int32.le_toInt m1, by have := Int32.toInt_lt m1; show m1.toInt ≤ 2147483647; omega, fun h => absurd rfl h, fun h => absurd rfl h⟩
    · have hbY := List.all_eq_true.mp hb Y hY
      have hYI := k1 Y hY
      intro W' β' h1 Ls sts hWW hb9 hH1 hL1 hS1
      obtain ⟨c9, L, st⟩ := Y
      cases c9 with
      | nil => cases hbY
      | cons r t =>
        unfold iv_oE at hbY
        dsimp only at hbY
        have hI1 : iv_xW A W h h1 := iv_backR y_Rr_ro hW hM hInv hWW hH1
        cases e26 : y_isn r.1 [11]
        · rw [e26, cond_false] at hbY
          split at hbY
          next v =>
            simp only [Bool.and_eq_true, Nat.beq_eq] at hbY
            obtain ⟨r1, v1⟩ := hbY
            cases sts with
            | nil => exact hS1.elim
            | cons x xs =>
              cases xs with
              | cons _ _ => exact hS1.2.elim
              | nil =>
                obtain ⟨⟨k, lo, hi, rq⟩, cp⟩ := v
                have v1 : k = 1 := v1
                subst v1
                obtain ⟨⟨n, rfl, -, -, -⟩, -⟩ := hS1.1
                have hrI := hYI r List.mem_cons_self
                obtain ⟨pc, len, q9, kd, a, k9, v0, ins⟩ := r
                have r1 : q9 = 41 := r1
                subst r1
                exact hend _ ⟨Nat.le_refl _, Nat.le_refl _, Or.inr (Or.inl ⟨n, iv_lreturn hrI, q3, rfl, ⟨n, rfl⟩, hI1⟩)⟩
          next => cases hbY
        · rw [e26, cond_true, List.isEmpty_iff] at hbY
          subst hbY
          cases sts with
          | cons _ _ => exact hS1.elim
          | nil =>
            have hpc := y_isn_in e26
            simp only [List.mem_cons, List.not_mem_nil, or_false] at hpc
            show P (r.1, Ls, [], 0, 0, h1)
            rw [hpc]
            exact h11 _ _ hI1
  next => cases hb
theorem iv_o208J (A : Nat → Nat) (h : g_H) (m1 m2 : Int32) (hI : iv_J A h) : ∀ P : g_S → Prop, (∀ S, g_end (g_by 208) (g_rt 208) 0 0 (fun r h' => (∃ v, r = some (.int v)) ∧ iv_J A h') S → P S) → (∀ L h', iv_J A h' → P (11, L, [], 0, 0, h')) → (∀ L h', iv_J A h' → P (114, L, [], 0, 0, h')) → (∀ S, g_pre (g_run 50) 11 3 false 0 0 (g_by 208) P S → P S) → P (0, lv_args 0 [.ref (A 0), .int m1, .int m2], [], 0, 0, h) := by
  intro P hend h11 h114 hcl
  obtain ⟨W, b, hJ⟩ := hI
  obtain ⟨t1, t2, t3⟩ := f_T1 iv_T_ok (j := 208) (by decide +kernel)
  have hme : (g_me 208).2.1 = 11 := (s_mi_ok 208 (3, 1, false, 0, 0, 11) (by decide +kernel)).2.2.2.2
  rw [hme] at t2 t3
  have up : ∀ h', iv_xW A W h h' → f_Fr iv_E iv_K h h' → iv_J A h' := fun h' hx hF => by
    obtain ⟨W', -, hJ'⟩ := iv_J_c hJ hx hF
    exact ⟨W', b, hJ'⟩
  exact iv_o208R A h m1 m2 hJ.1 (f_P iv_E iv_K (s_codes.getD 208 []) h P) (fun S hS _ hF => hend S (f_end hS (fun r hp => ⟨hp.1, up _ hp.2 hF⟩))) (fun L h' hI' _ hF => h11 L h' (up h' hI' hF)) (fun L h' hI' _ hF => h114 L h' (up h' hI' hF)) (f_cl hcl t2 t3 (f_run iv_T_ok 50)) t1 f_refl
theorem iv_o209J (A : Nat → Nat) (h : g_H) (m1 : Int32) (hI : iv_J A h) : ∀ P : g_S → Prop, (∀ S, g_end (g_by 209) (g_rt 209) 0 0 (fun r h' => (∃ v, r = some (.long v)) ∧ iv_J A h') S → P S) → (∀ L h', iv_J A h' → P (11, L, [], 0, 0, h')) → (∀ S, g_pre (g_run 50) 11 2 false 0 0 (g_by 209) P S → P S) → P (0, lv_args 0 [.ref (A 0), .int m1], [], 0, 0, h) := by
  intro P hend h11 hcl
  obtain ⟨W, b, hJ⟩ := hI
  obtain ⟨t1, t2, t3⟩ := f_T1 iv_T_ok (j := 209) (by decide +kernel)
  have hme : (g_me 209).2.1 = 11 := (s_mi_ok 209 (2, 3, false, 0, 0, 11) (by decide +kernel)).2.2.2.2
  rw [hme] at t2 t3
  have up : ∀ h', iv_xW A W h h' → f_Fr iv_E iv_K h h' → iv_J A h' := fun h' hx hF => by
    obtain ⟨W', -, hJ'⟩ := iv_J_c hJ hx hF
    exact ⟨W', b, hJ'⟩
  exact iv_o209R A h m1 hJ.1 (f_P iv_E iv_K (s_codes.getD 209 []) h P) (fun S hS _ hF => hend S (f_end hS (fun r hp => ⟨hp.1, up _ hp.2 hF⟩))) (fun L h' hI' _ hF => h11 L h' (up h' hI' hF)) (f_cl hcl t2 t3 (f_run iv_T_ok 50)) t1 f_refl
