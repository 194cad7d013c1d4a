-- the law's cases of its helpers
/-- at the helper's call, and on from behind it -/
def iv_hB (pc : Nat) (st0 : List z_V) (spec : List Nat) (args : List z_V) (jm : Nat) (lg : Bool) (Y : z_X) : Bool := match Y with
  | (r :: t, L, st, F) => Nat.beq r.1 pc && (Nat.beq (s_pc t) (pc + 3) && (decide (st = st0) && (L.all (fun p => !Nat.beq p.2.1 9) && (z_spB spec args && z_midB jm args false lg t L F))))
  | _ => false
def iv_hC (tg pc : Nat) (st0 : List z_V) (spec : List Nat) (args : List z_V) (jm : Nat) (lg : Bool) : Bool := match s_jump z_tab tg with
  | some c => (match z_run z_tab [23, pc] 300 (c, z_L0, [], []) with
    | some ls => ls.all (iv_hB pc st0 spec args jm lg)
    | none => false)
  | none => false
set_option maxRecDepth 100000 in
theorem iv_hC_of : iv_hC 522 536 [(5, 106), (8, 2), (8, 1), (5, 0)] [0, 0] [(8, 1), (8, 2)] 223 false = true := by decide +kernel
set_option maxRecDepth 100000 in
theorem iv_hC_row : iv_hC 1836 1844 [(5, 106), (8, 1), (5, 0)] [0] [(8, 1)] 301 true = true := by decide +kernel
set_option maxRecDepth 100000 in
theorem x_st_ok : Cond.stringRef "GreenGears" 165 "no such wheel" ∈ lw_tbl ∧ Cond.stringRef "GreenGears" 428 "no such number of the row" ∈ lw_tbl ∧ Cond.stringRef "GreenGears" 176 "nothing of that kind" ∈ lw_tbl ∧ Cond.laysStatic Bundle.tN "UNASSIGNED_STACK" Bundle.steD ∈ lw_tbl ∧ Cond.laysStatic Bundle.tN "SUPPRESSED_SENTINEL" Bundle.listD ∈ lw_tbl ∧ Cond.initialized Bundle.tN ∈ lw_tbl := by decide +kernel
set_option maxRecDepth 100000 in
theorem x_gv_ok : Cond.exactly (.string "GreenGears" 165) "java/lang/String" ∈ flatC (Jvm.Cond.and given_1 narrow_1) ∧ Cond.exactly (.string "GreenGears" 428) "java/lang/String" ∈ flatC (Jvm.Cond.and given_1 narrow_1) ∧ Cond.exactly (.string "GreenGears" 176) "java/lang/String" ∈ flatC (Jvm.Cond.and given_1 narrow_1) ∧ Cond.isRef (.static Bundle.tN "UNASSIGNED_STACK" Bundle.steD) ∈ flatC (Jvm.Cond.and given_1 narrow_1) ∧ Cond.isRef (.static Bundle.tN "SUPPRESSED_SENTINEL" Bundle.listD) ∈ flatC (Jvm.Cond.and given_1 narrow_1) := by decide +kernel
theorem x_tr {l : Launch} (hflags : l.flags = flags0) : l.stackTraces = false := by
  unfold Launch.stackTraces
  rw [hflags]
  decide +kernel
theorem x_str {own tx : String} {k : Nat} {A : Array Value} {s : State} (h1 : (Cond.stringRef own k tx).before A s = true) (h2 : (Cond.exactly (.string own k) "java/lang/String").before A s = true) : ∃ sa, vk_R own k tx sa s := by
  obtain ⟨a, c, cell, k', e1, -⟩ := Cond.exactly_spec (show (Cond.exactly (.string own k) "java/lang/String").holds A s none s [] = true from h2)
  exact ⟨a, vk_R.of h1 e1⟩
section L64
variable {p : Program} {l : Launch} {e : Env} {s : State} {m : MethodId} {below : List Frame} {meth : Method} {c : Code} {b : Nat} {xs : Nat → Int32} {D : va_G} {dA : Nat → ClassId} {L9 : Nat} {A : Nat → Nat} {i : Int}
theorem x_K_at (C0 : lw_At p s m meth c b L9 xs) : x_K s := by
  obtain ⟨hx, hb, hr, hml, hown, hts, hX, hbl, hlocks, hgv⟩ := C0
  have hs := flat_of_before _ hgv
  refine ⟨fun w hw => va_Nw.of (x_nst (List.mem_filter.mp hw).2) (hts w (List.mem_filter.mp hw).1), x_str (hts _ x_st_ok.1) (hs _ x_gv_ok.1), x_str (hts _ x_st_ok.2.1) (hs _ x_gv_ok.2.1), x_str (hts _ x_st_ok.2.2.1) (hs _ x_gv_ok.2.2.1)⟩
theorem x_Z_at (C0 : lw_At p s m meth c b L9 xs) : x_Z (fun q => s.heap.size ≤ q) s s.heap := by
  obtain ⟨hx, hb, hr, hml, hown, hts, hX, hbl, hlocks, hgv⟩ := C0
  have hs := flat_of_before _ hgv
  exact ⟨vx_Zqof (hts _ x_st_ok.2.2.2.1) (hts _ x_st_ok.2.2.2.2.2) (hs _ x_gv_ok.2.2.2.1) (fun a h1 h2 => absurd h1 (Nat.not_lt.mpr h2)), vx_Zqof (hts _ x_st_ok.2.2.2.2.1) (hts _ x_st_ok.2.2.2.2.2) (hs _ x_gv_ok.2.2.2.2) (fun a h1 h2 => absurd h1 (Nat.not_lt.mpr h2))⟩
set_option maxRecDepth 100000 in
theorem lw_of_d : decode code 536 = .ok (.invokestatic 49, 3) ∧ (Cond.methodLink "GreenGearsLaw" 49 x_lof_y ∈ g_wsl ∧ Cond.static x_lof_y ∈ g_wsl ∧ Cond.initialized x_lof_y.cls ∈ g_wsl) ∧ (x_lof_y.cls ≠ "java/lang/invoke/MethodHandle" ∧ x_lof_y.cls ≠ "java/lang/invoke/VarHandle" ∧ (parseMethodDescriptor x_lof_y.desc).map (fun d => d.parameters.length) = some 4) ∧ (g_me 223).2.1 = 12 ∧ x_lof_ws = .codeWith x_lof_y method_3_code 5 (some .int) [(0, 10, 13, 13)] :: g_wsl := ⟨by decide +kernel, ⟨by decide +kernel, by decide +kernel, by decide +kernel⟩, by decide +kernel, by decide +kernel, rfl⟩
theorem lw_of (hflags : l.flags = flags0) (C0 : lw_At p s m meth c b L9 xs) (hK : g_K4 D dA s) (hP : z_cl L9 b xs (lw_PP p l e s m below meth c b D dA)) (hE : ∀ ν, z_ok L9 b xs (z_Ev i L9 b A xs ν)) {cells slots : Nat} (hc1 : cells + 10 ≤ 601024) (hc2 : slots + 133 ≤ 7293034) (hn : ∀ c' s', c' ≤ cells + 10 → s' ≤ slots + 133 → z_next (lw_PP p l e s m below meth c b D dA) (iv_J A) i L9 b A xs c' s') {Ls : g_L} (hL : z_gL (z_Ev i L9 b A xs (fun _ => 0)) z_L0 Ls) {h : g_H} (hI : iv_J A h) : lw_PP p l e s m below meth c b D dA (522, Ls, [], cells, slots, h) := by
  have C1 := C0
  obtain ⟨hx, hb, hr, hml, hown, hts0, hX, hbl, hlocks, hgv⟩ := C1
  have hts : ∀ w ∈ g_wsl, w.before #[Value.ref b] s = true := fun w h => hts0 w (g_wsl_in w h)
  obtain ⟨hdg, ⟨w1, w2, w3⟩, hd, hjm, hws⟩ := lw_of_d
  have hb9 := iv_hC_of
  unfold iv_hC at hb9
  split at hb9
  next c9 ec =>
    split at hb9
    next ls9 el =>
      have hj := s_jump_mem ec
      obtain ⟨k1, k2⟩ := z_run_ok (w := (cells, slots, h)) (E := z_Ev i L9 b A xs (fun _ => 0)) hP (hE _) z_tab_ok 300 (c9, z_L0, [], []) ls9 el (fun q hq => z_tab_ok q (hj.2 q hq))
      have key := k2 (fun Y hY => ?_) Ls [] hL trivial (fun q hq => by cases hq)
      · rw [show s_pc c9 = 522 from hj.1] at key
        exact key
      · have hbY := List.all_eq_true.mp hb9 Y hY
        have hYI := k1 Y hY
        obtain ⟨c8, L, st, F⟩ := Y
        cases c8 with
        | nil => cases hbY
        | cons r t =>
          unfold iv_hB at hbY
          simp only [Bool.and_eq_true, Nat.beq_eq, decide_eq_true_eq] at hbY
          obtain ⟨g1, g2, rfl, g3, hsp, g4⟩ := hbY
          intro Ls2 sts hL2 hS hF
          obtain ⟨x0, y0, rfl, e0, hS⟩ := z_gS_c hS
          obtain ⟨x2, y2, rfl, e2, hS⟩ := z_gS_c hS
          obtain ⟨x1, y1, rfl, e1, hS⟩ := z_gS_c hS
          obtain ⟨x9, y9, rfl, e9, hS⟩ := z_gS_c hS
          cases y9 with
          | cons _ _ => exact hS.elim
          | nil =>
            obtain ⟨u1, hu1⟩ : ∃ u : Int32, x1 = .int u := ⟨_, e1⟩
            obtain ⟨u2, hu2⟩ : ∃ u : Int32, x2 = .int u := ⟨_, e2⟩
            have hag : z_gS (z_Ev i L9 b A xs (fun _ => 0)) [(8, 1), (8, 2)] [x1, x2] := ⟨e1, e2, trivial⟩
            have e0 : x0 = .ref (A 106) := e0
            have e9 : x9 = .ref (A 0) := e9
            subst e0 e9
            subst hu1 hu2
            show lw_PP p l e s m below meth c b D dA (r.1, Ls2, [.ref (A 106), .int u2, .int u1, .ref (A 0)], cells, slots, h)
            rw [g1]
            intro ls H locs hl hPP hD hSS
            have hM := x_lof2 l (x_tr hflags) (d := 50) rfl (x := A 0) (o := A 106) (u := u1) (v := u2) (h := h) hI rfl rfl D dA H.size
            refine g_after (D := D) (h := h) (fun q hq => hq) hl hD hSS (vx_runSW (cells := cells) (slots := slots) (As := [.ref (A 0), .int u1, .int u2, .ref (A 106)]) (rest := []) (n := 4) (R := room_1) (own := R_law) ⟨hx, hb, hml, hown, hts⟩ hM (vx_cwSW 4 hts ?_ hws rfl rfl hd ⟨by decide, by decide⟩) ⟨x_blind, x_PC_at (fun q hq => hq) hK (x_K_at C0) (x_Z_at C0) hPP hD hSS⟩ rfl rfl hl.1 rfl (lv_room (show (0 : Nat) ≤ 8 by decide)) hdg ⟨by show cells + 1 ≤ 601024; omega, by show slots + 6 ≤ 7293034; omega⟩) (fun r9 h' hp => ?_)
            · intro w hw
              have hm : w ∈ g_wsl := by
                unfold va_wsS at hw
                rcases List.mem_append.mp hw with h9 | h9
                · simp only [List.mem_cons, List.not_mem_nil, or_false] at h9
                  rcases h9 with rfl | rfl | rfl
                  · exact w1
                  · exact w2
                  · exact w3
                · exact (x_lof_good w h9).1
              exact ⟨hm, good_of_word (g_wsl_good w hm)⟩
            · obtain ⟨⟨v1, rfl⟩, hI1⟩ := hp
              have h9 : ∀ p ∈ L, p.2.1 = 9 → (fun _ => (0 : Int32)) p.2.2.toNat = (fun _ => v1) p.2.2.toNat := fun p hp h9 => by
                have := List.all_eq_true.mp g3 p hp
                rw [h9] at this
                cases this
              rw [show 536 + 3 = s_pc t from g2.symm]
              refine z_midB_ok (cells := cells + 1) (slots := slots + 6) (INV := iv_J A) (v1 := v1) (cmp := false) (lg := false) hP hE hjm (fun q hq => hYI q (List.mem_cons_of_mem _ hq)) g4 hsp (as := [.int u1, .int u2]) ?_ ⟨iv_sh_ok (iv_J_inv hI1), g_run_mono (hmR_223 A h' [.int u1, .int u2] hI1 ⟨⟨u1, rfl, fun h => by cases h⟩, ⟨u2, rfl, fun h => by cases h⟩, trivial⟩) (fun r2 h2 hp => ⟨⟨hp.1.choose, hp.1.choose_spec, fun h => by cases h⟩, hp.2⟩)⟩ (fun _ => rfl) (by omega) (by omega) (hn _ _ (by omega) (by omega)) (z_nuL h9 hL2) hF
              exact z_nuS (fun v hv h9 => by
                simp only [List.mem_cons, List.not_mem_nil, or_false] at hv
                rcases hv with rfl | rfl <;> cases h9) hag
    next => cases hb9
  next => cases hb9
set_option maxRecDepth 100000 in
theorem lw_row_d : decode code 1844 = .ok (.invokestatic 229, 3) ∧ (Cond.methodLink "GreenGearsLaw" 229 x_lrow_y ∈ g_wsl ∧ Cond.static x_lrow_y ∈ g_wsl ∧ Cond.initialized x_lrow_y.cls ∈ g_wsl) ∧ (x_lrow_y.cls ≠ "java/lang/invoke/MethodHandle" ∧ x_lrow_y.cls ≠ "java/lang/invoke/VarHandle" ∧ (parseMethodDescriptor x_lrow_y.desc).map (fun d => d.parameters.length) = some 3) ∧ (g_me 301).2.1 = 12 ∧ x_lrow_ws = .codeWith x_lrow_y method_4_code 4 (some .int) [(0, 8, 11, 13)] :: g_wsl := ⟨by decide +kernel, ⟨by decide +kernel, by decide +kernel, by decide +kernel⟩, by decide +kernel, by decide +kernel, rfl⟩
theorem lw_row (hflags : l.flags = flags0) (C0 : lw_At p s m meth c b L9 xs) (hK : g_K4 D dA s) (hP : z_cl L9 b xs (lw_PP p l e s m below meth c b D dA)) (hE : ∀ ν, z_ok L9 b xs (z_Ev i L9 b A xs ν)) {cells slots : Nat} (hc1 : cells + 10 ≤ 601024) (hc2 : slots + 133 ≤ 7293034) (hn : ∀ c' s', c' ≤ cells + 10 → s' ≤ slots + 133 → z_next (lw_PP p l e s m below meth c b D dA) (iv_J A) i L9 b A xs c' s') {Ls : g_L} (hL : z_gL (z_Ev i L9 b A xs (fun _ => 0)) z_L0 Ls) {h : g_H} (hI : iv_J A h) : lw_PP p l e s m below meth c b D dA (1836, Ls, [], cells, slots, h) := by
  have C1 := C0
  obtain ⟨hx, hb, hr, hml, hown, hts0, hX, hbl, hlocks, hgv⟩ := C1
  have hts : ∀ w ∈ g_wsl, w.before #[Value.ref b] s = true := fun w h => hts0 w (g_wsl_in w h)
  obtain ⟨hdg, ⟨w1, w2, w3⟩, hd, hjm, hws⟩ := lw_row_d
  have hb9 := iv_hC_row
  unfold iv_hC at hb9
  split at hb9
  next c9 ec =>
    split at hb9
    next ls9 el =>
      have hj := s_jump_mem ec
      obtain ⟨k1, k2⟩ := z_run_ok (w := (cells, slots, h)) (E := z_Ev i L9 b A xs (fun _ => 0)) hP (hE _) z_tab_ok 300 (c9, z_L0, [], []) ls9 el (fun q hq => z_tab_ok q (hj.2 q hq))
      have key := k2 (fun Y hY => ?_) Ls [] hL trivial (fun q hq => by cases hq)
      · rw [show s_pc c9 = 1836 from hj.1] at key
        exact key
      · have hbY := List.all_eq_true.mp hb9 Y hY
        have hYI := k1 Y hY
        obtain ⟨c8, L, st, F⟩ := Y
        cases c8 with
        | nil => cases hbY
        | cons r t =>
          unfold iv_hB at hbY
          simp only [Bool.and_eq_true, Nat.beq_eq, decide_eq_true_eq] at hbY
          obtain ⟨g1, g2, rfl, g3, hsp, g4⟩ := hbY
          intro Ls2 sts hL2 hS hF
          obtain ⟨x0, y0, rfl, e0, hS⟩ := z_gS_c hS
          obtain ⟨x1, y1, rfl, e1, hS⟩ := z_gS_c hS
          obtain ⟨x9, y9, rfl, e9, hS⟩ := z_gS_c hS
          cases y9 with
          | cons _ _ => exact hS.elim
          | nil =>
            obtain ⟨u1, hu1⟩ : ∃ u : Int32, x1 = .int u := ⟨_, e1⟩
            have hag : z_gS (z_Ev i L9 b A xs (fun _ => 0)) [(8, 1)] [x1] := ⟨e1, trivial⟩
            have e0 : x0 = .ref (A 106) := e0
            have e9 : x9 = .ref (A 0) := e9
            subst e0 e9
            subst hu1
            show lw_PP p l e s m below meth c b D dA (r.1, Ls2, [.ref (A 106), .int u1, .ref (A 0)], cells, slots, h)
            rw [g1]
            intro ls H locs hl hPP hD hSS
            have hM := x_lrow2 l (x_tr hflags) (d := 50) rfl (x := A 0) (o := A 106) (u := u1) (h := h) hI rfl rfl D dA H.size
            refine g_after (D := D) (h := h) (fun q hq => hq) hl hD hSS (vx_runSW (cells := cells) (slots := slots) (As := [.ref (A 0), .int u1, .ref (A 106)]) (rest := []) (n := 3) (R := room_1) (own := R_law) ⟨hx, hb, hml, hown, hts⟩ hM (vx_cwSW 3 hts ?_ hws rfl rfl hd ⟨by decide, by decide⟩) ⟨x_blind, x_PC_at (fun q hq => hq) hK (x_K_at C0) (x_Z_at C0) hPP hD hSS⟩ rfl rfl hl.1 rfl (lv_room (show (0 : Nat) ≤ 8 by decide)) hdg ⟨by show cells + 1 ≤ 601024; omega, by show slots + 6 ≤ 7293034; omega⟩) (fun r9 h' hp => ?_)
            · intro w hw
              have hm : w ∈ g_wsl := by
                unfold va_wsS at hw
                rcases List.mem_append.mp hw with h9 | h9
                · simp only [List.mem_cons, List.not_mem_nil, or_false] at h9
                  rcases h9 with rfl | rfl | rfl
                  · exact w1
                  · exact w2
                  · exact w3
                · exact (x_lrow_good w h9).1
              exact ⟨hm, good_of_word (g_wsl_good w hm)⟩
            · obtain ⟨⟨v1, rfl⟩, hI1⟩ := hp
              have h9 : ∀ p ∈ L, p.2.1 = 9 → (fun _ => (0 : Int32)) p.2.2.toNat = (fun _ => v1) p.2.2.toNat := fun p hp h9 => by
                have := List.all_eq_true.mp g3 p hp
                rw [h9] at this
                cases this
              rw [show 1844 + 3 = s_pc t from g2.symm]
              refine z_midB_ok (cells := cells + 1) (slots := slots + 6) (INV := iv_J A) (v1 := v1) (cmp := false) (lg := true) hP hE hjm (fun q hq => hYI q (List.mem_cons_of_mem _ hq)) g4 hsp (as := [.int u1]) ?_ ⟨iv_sh_ok (iv_J_inv hI1), g_run_mono (hmR_301L A h' [.int u1] hI1 ⟨⟨u1, rfl, fun h => by cases h⟩, trivial⟩) (fun r2 h2 hp => ⟨⟨0, hp.1, fun h => by cases h⟩, hp.2⟩)⟩ (fun _ => rfl) (by omega) (by omega) (hn _ _ (by omega) (by omega)) (z_nuL h9 hL2) hF
              exact z_nuS (fun v hv h9 => by
                simp only [List.mem_cons, List.not_mem_nil, or_false] at hv
                rcases hv with rfl <;> cases h9) hag
    next => cases hb9
  next => cases hb9
end L64
