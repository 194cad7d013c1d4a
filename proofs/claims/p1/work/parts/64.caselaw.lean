-- the law's cases of and row
set_option maxRecDepth 100000 in
theorem x_st_ok : Cond.stringRef "GreenGears" 165 "no such wheel" ∈ lw_tbl ∧ Cond.stringRef "GreenGears" 428 "no such number of the row" ∈ lw_tbl ∧ Cond.laysStatic Bundle.tN "UNASSIGNED_STACK" Bundle.steD ∈ lw_tbl ∧ Cond.laysStatic Bundle.tN "SUPPRESSED_SENTINEL" Bundle.listD ∈ lw_tbl ∧ Cond.initialized Bundle.tN ∈ lw_tbl := by decide +kernel
set_option maxRecDepth 100000 in
theorem x_gv_ok : Cond.exactly (.string "GreenGears" 165) "java/lang/String" ∈ flatC (Jvm.Cond.and given_1 narrow_1) ∧ Cond.exactly (.string "GreenGears" 428) "java/lang/String" ∈ flatC (Jvm.Cond.and given_1 narrow_1) ∧ Cond.isRef (.static Bundle.tN "UNASSIGNED_STACK" Bundle.steD) ∈ flatC (Jvm.Cond.and given_1 narrow_1) ∧ Cond.isRef (.static Bundle.tN "SUPPRESSED_SENTINEL" Bundle.listD) ∈ flatC (Jvm.Cond.and given_1 narrow_1) := by decide +kernel
theorem x_tr {l : Launch} (hflags : l.flags = flags0) : l.stackTraces = false := by
  unfold Launch.stackTraces
  rw [hflags]
  decide +kernel
theorem x_str {own tx : String} {k : Nat} {A : Array Value} {s : State} (h1 : (Cond.stringRef own k tx).before A s = true) (h2 : (Cond.exactly (.string own k) "java/lang/String").before A s = true) : ∃ sa, vk_R own k tx sa s := by
  obtain ⟨a, c, cell, k', e1, -⟩ := Cond.exactly_spec (show (Cond.exactly (.string own k) "java/lang/String").holds A s none s [] = true from h2)
  exact ⟨a, vk_R.of h1 e1⟩
section L64
variable {p : Program} {l : Launch} {e : Env} {s : State} {m : MethodId} {below : List Frame} {meth : Method} {c : Code} {b : Nat} {xs : Nat → Int32} {D : va_G} {dA : Nat → ClassId} {L9 : Nat}
theorem x_K_at (C0 : lw_At p s m meth c b L9 xs) : x_K s := by
  obtain ⟨hx, hb, hr, hml, hown, hts, hX, hbl, hlocks, hgv⟩ := C0
  have hs := flat_of_before _ hgv
  refine ⟨fun w hw => va_Nw.of (x_nst (List.mem_filter.mp hw).2) (hts w (List.mem_filter.mp hw).1), x_str (hts _ x_st_ok.1) (hs _ x_gv_ok.1), x_str (hts _ x_st_ok.2.1) (hs _ x_gv_ok.2.1)⟩
theorem x_Z_at (C0 : lw_At p s m meth c b L9 xs) : x_Z (fun q => s.heap.size ≤ q) s s.heap := by
  obtain ⟨hx, hb, hr, hml, hown, hts, hX, hbl, hlocks, hgv⟩ := C0
  have hs := flat_of_before _ hgv
  exact ⟨vx_Zqof (hts _ x_st_ok.2.2.1) (hts _ x_st_ok.2.2.2.2) (hs _ x_gv_ok.2.2.1) (fun a h1 h2 => absurd h1 (Nat.not_lt.mpr h2)), vx_Zqof (hts _ x_st_ok.2.2.2.1) (hts _ x_st_ok.2.2.2.2) (hs _ x_gv_ok.2.2.2) (fun a h1 h2 => absurd h1 (Nat.not_lt.mpr h2))⟩
set_option maxRecDepth 100000 in
theorem lw_of_d : decode code 536 = .ok (.invokestatic 49, 3) ∧ (Cond.methodLink "GreenGearsLaw" 49 x_lof_y ∈ g_wsl ∧ Cond.static x_lof_y ∈ g_wsl ∧ Cond.initialized x_lof_y.cls ∈ g_wsl) ∧ (x_lof_y.cls ≠ "java/lang/invoke/MethodHandle" ∧ x_lof_y.cls ≠ "java/lang/invoke/VarHandle" ∧ (parseMethodDescriptor x_lof_y.desc).map (fun d => d.parameters.length) = some 4) ∧ s_mi[208]? = some (3, 1, false, 0, 0, 11) ∧ x_lof_ws = .codeWith x_lof_y method_3_code 5 (some .int) [(0, 10, 13, 13)] :: g_wsl := ⟨by decide +kernel, ⟨by decide +kernel, by decide +kernel, by decide +kernel⟩, by decide +kernel, by decide +kernel, rfl⟩
theorem lw_of (hflags : l.flags = flags0) (C0 : lw_At p s m meth c b 5 xs) (hK : g_K4 D dA s) {σ : Nat → Int} (ρ : Nat → Nat) (hok : s_ok (lw_xs xs) σ lw_M) (h : σ 5 = 6) : lw_PP p l e s m below meth c b D dA (s_cX σ ρ b (s_lit 0 0)) := by
  have C1 := C0
  obtain ⟨hx, hb, hr, hml, hown, hts0, hX, hbl, hlocks, hgv⟩ := C1
  have hts : ∀ w ∈ g_wsl, w.before #[Value.ref b] s = true := fun w h => hts0 w (g_wsl_in w h)
  obtain ⟨hdg, ⟨w1, w2, w3⟩, hd, hq, hws⟩ := lw_of_d
  have hc := x_r_6
  unfold x_okC at hc
  split at hc
  next outs e1 =>
    obtain ⟨h1, h2⟩ := s_loop_ok (lw_cl (l := l) (e := e) (below := below) C0 hK) (lw_scr C0) s_ft_ok s_df_ok s_mi_ok (x_run_ok (lw_xs xs) 30) s_cl2_ok s_F (s_lit 6 6) outs e1 s_c39_ok
    refine h2 σ ρ (s_ok_set hok (Int.le_of_eq h.symm) (Int.le_of_eq h)) (fun Y hY σ' ρ' _ _ hok' => ?_)
    have hy := List.all_eq_true.mp hc Y hY
    have hYI := (h1 Y hY).2.2
    unfold x_case at hy
    split at hy
    next r t L st cn sn M =>
      simp only [Bool.and_eq_true, Nat.beq_eq, decide_eq_true_eq, Nat.ble_eq] at hy
      obtain ⟨g1, g2, rfl, g4, g5, g6, g7, g8⟩ := hy
      split at g7
      next c0 ec =>
        split at g8
        next Ms eM =>
          rw [Bool.and_eq_true, Nat.beq_eq] at g7
          have hq0 : ∃ n f, g_get (s_ch σ' ρ' b 0 M.2.2.2) 0 = some (ρ' 0, false, 11, n, f) := by
            obtain ⟨x, y, n, dd, f⟩ := c0
            have hx0 : x = false := by
              cases x with
              | false => rfl
              | true => cases g7.1
            have hy0 : y = 11 := g7.2
            subst hx0 hy0
            rw [s_ch_get, ec, Nat.zero_add]
            exact ⟨_, _, rfl⟩
          obtain ⟨n0, f0, hq0⟩ := hq0
          have hrun := x_thr_ok (σ := σ') (ρ := ρ') (b := b) hq eM hok' (post := fun h' => ∃ N ∈ Ms, ∃ (σ2 : Nat → Int) (ρ2 : Nat → Nat), (∀ i, i < M.1.length → σ2 i = σ' i) ∧ (∀ i, i < M.2.2.2.length → ρ2 i = ρ' i) ∧ s_ok (lw_xs xs) σ2 N ∧ h' = s_ch σ2 ρ2 b 0 N.2.2.2) (fun N hN σ2 ρ2 b1 b2 b3 => ⟨N, hN, σ2, ρ2, b1, b2, b3, rfl⟩)
          show lw_PP p l e s m below meth c b D dA (r.1, s_cL σ' ρ' b L, [.ref (ρ' 106), .int (Int32.ofInt (σ' 2)), .int (Int32.ofInt (σ' 1)), .ref (ρ' 0)], cn, sn, s_ch σ' ρ' b 0 M.2.2.2)
          rw [g1]
          intro ls H locs hl hP hD hS
          have hM := x_lof l (x_tr hflags) (d := 20) (by decide) (x := ρ' 0) (o := ρ' 106) (u := Int32.ofInt (σ' 1)) (v := Int32.ofInt (σ' 2)) (h := s_ch σ' ρ' b 0 M.2.2.2) hq0 hrun D dA H.size
          refine g_after (D := D) (h := s_ch σ' ρ' b 0 M.2.2.2) (fun q hq => hq) hl hD hS (vx_runSW (cells := cn) (slots := sn) (As := [.ref (ρ' 0), .int (Int32.ofInt (σ' 1)), .int (Int32.ofInt (σ' 2)), .ref (ρ' 106)]) (rest := []) (n := 4) (R := room_1) (own := R_law) ⟨hx, hb, hml, hown, hts⟩ hM (vx_cwSW 4 hts ?_ hws rfl rfl hd ⟨by decide, by decide⟩) ⟨x_blind, x_PC_at (fun q hq => hq) hK (x_K_at C0) (x_Z_at C0) hP hD hS⟩ rfl rfl hl.1 rfl (lv_room (show (0 : Nat) ≤ 8 by decide)) hdg ⟨g4, g5⟩) (fun r9 h' hp => ?_)
          · intro w hw
            have hm : w ∈ g_wsl := by
              unfold va_wsS at hw
              rcases List.mem_append.mp hw with h9 | h9
              · simp only [List.mem_cons, List.not_mem_nil, or_false] at h9
                rcases h9 with rfl | rfl | rfl
                · exact w1
                · exact w2
                · exact w3
              · exact (x_lof_good w h9).1
            exact ⟨hm, good_of_word (g_wsl_good w hm)⟩
          · obtain ⟨rfl, N, hN, σ2, ρ2, b1, b2, b3, rfl⟩ := hp
            have hk := List.all_eq_true.mp g8 N hN
            simp only [Bool.and_eq_true, Nat.ble_eq] at hk
            obtain ⟨k1, k2, k3⟩ := hk
            have key := lw_allK (l := l) (e := e) (below := below) C0 hK (x_run_ok (lw_xs xs) 30) (X := (t, L, [(0, 1)], cn + 1, sn + 6, N)) k3 (fun r hr => hYI r (List.mem_cons_of_mem _ hr)) σ2 ρ2 b3
            unfold s_cX at key
            dsimp only at key
            rw [g2, s_wL_ag g6 b1 b2] at key
            exact key
        next => cases g8
      next => cases g7
    next => cases hy
  next => cases hc
set_option maxRecDepth 100000 in
theorem lw_row_d : decode code 1872 = .ok (.invokestatic 232, 3) ∧ (Cond.methodLink "GreenGearsLaw" 232 x_lrow_y ∈ g_wsl ∧ Cond.static x_lrow_y ∈ g_wsl ∧ Cond.initialized x_lrow_y.cls ∈ g_wsl) ∧ (x_lrow_y.cls ≠ "java/lang/invoke/MethodHandle" ∧ x_lrow_y.cls ≠ "java/lang/invoke/VarHandle" ∧ (parseMethodDescriptor x_lrow_y.desc).map (fun d => d.parameters.length) = some 3) ∧ s_mi[209]? = some (2, 3, false, 0, 0, 11) ∧ x_lrow_ws = .codeWith x_lrow_y method_4_code 4 (some .int) [(0, 8, 11, 13)] :: g_wsl := ⟨by decide +kernel, ⟨by decide +kernel, by decide +kernel, by decide +kernel⟩, by decide +kernel, by decide +kernel, rfl⟩
theorem lw_row (hflags : l.flags = flags0) (C0 : lw_At p s m meth c b 5 xs) (hK : g_K4 D dA s) {σ : Nat → Int} (ρ : Nat → Nat) (hok : s_ok (lw_xs xs) σ lw_M) (h : σ 5 = 49) : lw_PP p l e s m below meth c b D dA (s_cX σ ρ b (s_lit 0 0)) := by
  have C1 := C0
  obtain ⟨hx, hb, hr, hml, hown, hts0, hX, hbl, hlocks, hgv⟩ := C1
  have hts : ∀ w ∈ g_wsl, w.before #[Value.ref b] s = true := fun w h => hts0 w (g_wsl_in w h)
  obtain ⟨hdg, ⟨w1, w2, w3⟩, hd, hq, hws⟩ := lw_row_d
  have hc := x_r_49
  unfold x_okC at hc
  split at hc
  next outs e1 =>
    obtain ⟨h1, h2⟩ := s_loop_ok (lw_cl (l := l) (e := e) (below := below) C0 hK) (lw_scr C0) s_ft_ok s_df_ok s_mi_ok (x_run_ok (lw_xs xs) 30) s_cl2_ok s_F (s_lit 49 49) outs e1 s_c39_ok
    refine h2 σ ρ (s_ok_set hok (Int.le_of_eq h.symm) (Int.le_of_eq h)) (fun Y hY σ' ρ' _ _ hok' => ?_)
    have hy := List.all_eq_true.mp hc Y hY
    have hYI := (h1 Y hY).2.2
    unfold x_case at hy
    split at hy
    next r t L st cn sn M =>
      simp only [Bool.and_eq_true, Nat.beq_eq, decide_eq_true_eq, Nat.ble_eq] at hy
      obtain ⟨g1, g2, rfl, g4, g5, g6, g7, g8⟩ := hy
      split at g7
      next c0 ec =>
        split at g8
        next Ms eM =>
          rw [Bool.and_eq_true, Nat.beq_eq] at g7
          have hq0 : ∃ n f, g_get (s_ch σ' ρ' b 0 M.2.2.2) 0 = some (ρ' 0, false, 11, n, f) := by
            obtain ⟨x, y, n, dd, f⟩ := c0
            have hx0 : x = false := by
              cases x with
              | false => rfl
              | true => cases g7.1
            have hy0 : y = 11 := g7.2
            subst hx0 hy0
            rw [s_ch_get, ec, Nat.zero_add]
            exact ⟨_, _, rfl⟩
          obtain ⟨n0, f0, hq0⟩ := hq0
          have hrun := x_thr_ok (σ := σ') (ρ := ρ') (b := b) hq eM hok' (post := fun h' => ∃ N ∈ Ms, ∃ (σ2 : Nat → Int) (ρ2 : Nat → Nat), (∀ i, i < M.1.length → σ2 i = σ' i) ∧ (∀ i, i < M.2.2.2.length → ρ2 i = ρ' i) ∧ s_ok (lw_xs xs) σ2 N ∧ h' = s_ch σ2 ρ2 b 0 N.2.2.2) (fun N hN σ2 ρ2 b1 b2 b3 => ⟨N, hN, σ2, ρ2, b1, b2, b3, rfl⟩)
          show lw_PP p l e s m below meth c b D dA (r.1, s_cL σ' ρ' b L, [.ref (ρ' 106), .int (Int32.ofInt (σ' 1)), .ref (ρ' 0)], cn, sn, s_ch σ' ρ' b 0 M.2.2.2)
          rw [g1]
          intro ls H locs hl hP hD hS
          have hM := x_lrow l (x_tr hflags) (d := 20) (by decide) (x := ρ' 0) (o := ρ' 106) (u := Int32.ofInt (σ' 1)) (h := s_ch σ' ρ' b 0 M.2.2.2) hq0 hrun D dA H.size
          refine g_after (D := D) (h := s_ch σ' ρ' b 0 M.2.2.2) (fun q hq => hq) hl hD hS (vx_runSW (cells := cn) (slots := sn) (As := [.ref (ρ' 0), .int (Int32.ofInt (σ' 1)), .ref (ρ' 106)]) (rest := []) (n := 3) (R := room_1) (own := R_law) ⟨hx, hb, hml, hown, hts⟩ hM (vx_cwSW 3 hts ?_ hws rfl rfl hd ⟨by decide, by decide⟩) ⟨x_blind, x_PC_at (fun q hq => hq) hK (x_K_at C0) (x_Z_at C0) hP hD hS⟩ rfl rfl hl.1 rfl (lv_room (show (0 : Nat) ≤ 8 by decide)) hdg ⟨g4, g5⟩) (fun r9 h' hp => ?_)
          · intro w hw
            have hm : w ∈ g_wsl := by
              unfold va_wsS at hw
              rcases List.mem_append.mp hw with h9 | h9
              · simp only [List.mem_cons, List.not_mem_nil, or_false] at h9
                rcases h9 with rfl | rfl | rfl
                · exact w1
                · exact w2
                · exact w3
              · exact (x_lrow_good w h9).1
            exact ⟨hm, good_of_word (g_wsl_good w hm)⟩
          · obtain ⟨rfl, N, hN, σ2, ρ2, b1, b2, b3, rfl⟩ := hp
            have hk := List.all_eq_true.mp g8 N hN
            simp only [Bool.and_eq_true, Nat.ble_eq] at hk
            obtain ⟨k1, k2, k3⟩ := hk
            have key := lw_allK (l := l) (e := e) (below := below) C0 hK (x_run_ok (lw_xs xs) 30) (X := (t, L, [(0, 1)], cn + 1, sn + 6, N)) k3 (fun r hr => hYI r (List.mem_cons_of_mem _ hr)) σ2 ρ2 b3
            unfold s_cX at key
            dsimp only at key
            rw [g2, s_wL_ag g6 b1 b2] at key
            exact key
        next => cases g8
      next => cases g7
    next => cases hy
  next => cases hc
end L64
