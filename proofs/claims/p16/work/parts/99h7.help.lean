-- of and row by way of the law's helpers
set_option maxRecDepth 100000 in
theorem x_cast_in : Cond.castable x_E x_E ∈ x_nsl := by decide +kernel
set_option maxRecDepth 100000 in
theorem x_lof_end : decode method_3_code 16 = .ok (.ireturn, 1) ∧ decode method_3_code 18 = .ok (.ireturn, 1) := by decide +kernel
def x_lof_y : MethodName := ⟨"GreenGearsLaw", "of", "(LGreenGears;II[J)I"⟩
def x_lof_c : Cond := .codeWith x_lof_y method_3_code 5 (some .int) [(0, 10, 13, 13)]
def x_lof_ws : List Cond := x_lof_c :: g_wsl
def x_lof_t : List s_I := [(0, 1, 1, 0, 3, 2, 0, .aload_n 3), (1, 1, 0, 0, 0, 0, 0, .iconst 0), (2, 1, 1, 0, 0, 2, 0, .aload_n 0), (3, 1, 1, 0, 1, 0, 0, .iload_n 1), (4, 1, 1, 0, 2, 0, 0, .iload_n 2), (5, 3, 50, 0, 0, 0, 0, .invokevirtual 7), (8, 1, 17, 0, 0, 0, 0, .i2l), (9, 1, 33, 0, 1, 0, 0, .lastore), (10, 3, 20, 0, 17, 0, 0, .goto 7), (13, 2, 2, 0, 4, 2, 0, .astore 4), (15, 1, 0, 0, 0, 0, 1, .iconst 1), (16, 1, 40, 0, 0, 0, 0, .ireturn), (17, 1, 0, 0, 0, 0, 0, .iconst 0), (18, 1, 40, 0, 0, 0, 0, .ireturn)]
set_option maxRecDepth 100000 in
theorem x_lof_ok : x_lof_t.all (s_okI method_3_code 13) = true := by decide +kernel
set_option maxRecDepth 100000 in
theorem x_lof_in : (x_lof_c ∈ lw_tbl ∧ goodWord x_lof_c = true) ∧ plainName x_lof_y.cls = true ∧ g_cn 13 = "GreenGearsLaw" ∧ decode method_3_code 5 = .ok (.invokevirtual 7, 3) ∧ 208 < g_mt.length ∧ g_nl 208 = 3 ∧ (g_me 208).2.2 = 2 ∧ (g_me 208).2.1 = 11 ∧ (Cond.methodLink "GreenGearsLaw" 7 (g_y 208) ∈ g_wsl ∧ Cond.initialized (g_y 208).cls ∈ g_wsl ∧ Cond.instanceMethod (g_y 208) ∈ g_wsl ∧ Cond.selects (g_y 208).cls (g_y 208) (g_y 208) ∈ g_wsl) := by decide +kernel
theorem x_lof_wsl : x_lof_c ∈ g_wsl := List.mem_filter.mpr x_lof_in.1
theorem x_lof_good : GoodIn g_wsl x_lof_ws := by
  intro w hw
  have hm : w ∈ g_wsl := by
    rcases List.mem_cons.mp hw with rfl | h1
    · exact x_lof_wsl
    · exact h1
  exact ⟨hm, good_of_word (g_wsl_good w hm)⟩
theorem x_lof2 (l : Launch) (htr : l.stackTraces = false) {d : Nat} (hd : d = 50) {x o : Addr} {u v : Int32} {h : g_H} {A : Nat → Nat} (hI : iv_J A h) (hx : x = A 0) (ho : o = A 106)
    (D : va_G) (dA : Nat → ClassId) (sz : Nat) :
    Met l x_lof_y x_lof_ws (g_room (d + 2) 1 6) (x_Pc D dA [.ref (A 0), .int u, .int v, .ref (A 106)] h sz) (g_Qc dA D h sz (fun r h' => (∃ v, r = some (.int v)) ∧ iv_J A h')) 1 6 (va_A (g_tw dA h) sz) := by
  subst hx ho
  obtain ⟨⟨n0, f0, hq0⟩, -, fo, hgo⟩ := iv_sh_ok (iv_J_inv hI)
  obtain ⟨-, hpn, hcn, hdg, hj, hnl, hna, hme, w1, w2, w3, w4⟩ := x_lof_in
  obtain ⟨a1, a2, a3, a4, a5, a6⟩ := g_me_ok hj
  refine va_MetW (cc := method_3_code) (maxL := 5) (ret := some .int) (hh := [(0, 10, 13, 13)]) hpn rfl ?_
  intro p e s m args below meth c s₁ B hml hv
  obtain ⟨rfl, hsz, hP, hK, hD0, hxK, hxZ⟩ := hv
  have hts0 := atoms_spec (ws := x_lof_ws) B.pre
  have hts : ∀ w ∈ g_wsl, w.before _ s = true := fun w hw => hts0 w (List.mem_cons_of_mem _ hw)
  have htab := vx_table (x := x_lof_y) B (hts0 _ List.mem_cons_self)
  have hown : s.vm.findClass (g_cn 13) = some m.cls := by rw [hcn]; exact findClass_of_methodNamed B.named
  subst hsz
  have hl := lv_entry [.ref (A 0), .int u, .int v, .ref (A 106)] (n := 5) (by show 4 ≤ 5; decide)
  rw [lg_entry_eq]
  have hC : g_Cx p s m _ meth c method_3_code 13 5 false D dA := ⟨B.exec, B.bytes, hml, hown, hts, hK, fun h9 => by cases h9⟩
  have hcl : ∀ S, g_pre (g_run d) 13 5 false 0 0 method_3_code (g_G p l e (g_room (d + 2) 1 6) s m [.ref (A 0), .int u, .int v, .ref (A 106)].toArray below meth c 5 D dA (va_A (g_tw dA h) s.heap.size) s.heap (MQ below (g_Qc dA D h s.heap.size (fun r h' => (∃ v, r = some (.int v)) ∧ iv_J A h')) [.ref (A 0), .int u, .int v, .ref (A 106)].toArray s 1 6 (va_A (g_tw dA h) s.heap.size))) S → _ := fun S hS => g_sP hC (fun q hq => Or.inr hq) (Nat.zero_le _) (Nat.zero_le _) (by show d + 1 ≤ d + 2; omega) (by show 200 * d + 200 ≤ 200 * (d + 2); omega) (g_sound l d) S hS
  have hfull := List.all_eq_true.mp x_lof_ok
  refine (?_ : g_G p l e (g_room (d + 2) 1 6) s m _ below meth c 5 D dA (va_A (g_tw dA h) s.heap.size) s.heap _ (0, lv_args 0 [.ref (A 0), .int u, .int v, .ref (A 106)], [], 0, 0, h)) _ s.heap [] hl hP hD0.self va_S.rf
  refine t_at_ok hcl hfull (pc := 0) (n := 5) (pc' := 5) (L' := [(0, .ref (A 0)), (1, .int u), (2, .int v), (3, .ref (A 106))]) (st' := [.int v, .int u, .ref (A 0), .int (Int32.ofInt 0), .ref (A 106)]) rfl ?_
  intro ls H locs hl hP hD hS
  have hq' := g_tw_at (dA := dA) hq0
  have hclx : ∃ q : vw_C, g_cl[11]? = some q ∧ q.1 = (g_y 208).cls := by
    obtain ⟨r, hr1, -⟩ := hP 0 _ hq'
    refine ⟨r, hr1, ?_⟩
    have hlt : 11 < g_fl.length := by
      have := (List.getElem?_eq_some_iff.mp hr1).1
      rw [g_cl, List.length_map] at this; exact this
    rw [g_cl_at hlt] at hr1
    cases hr1
    rw [a2, hme]
  obtain ⟨rc, hrc1, hrc2⟩ := hclx
  obtain ⟨cell, hc2, hc3, hc4⟩ := va_recv hK.1 hP hrc1 hq'
  rw [hrc2] at hc4
  rw [hcn] at hown
  have hM := x_of2 l htr (d := d) (by omega) (as := [.ref (A 0), .int u, .int v]) (h := h) (post := iv_J A) (ret := fun r h' => (∃ v, r = some (.int v)) ∧ iv_J A h') (by show 3 ≤ 3; decide) (by subst hd; exact iv_o208J A h u v hI) D dA H.size
  have hrun2 := vx_runV (cells := 0) (slots := 0) (H := H) (locs := locs) (g := F0 m 5 ls [.int v, .int u, .ref (A 0), .int (Int32.ofInt 0), .ref (A 106)]) (rest := [.int (Int32.ofInt 0), .ref (A 106)]) (b := A 0) (As := [.int u, .int v]) (n := 2) (R := g_room (d + 2) 1 6) (below := below) (meth := meth) (l := l) (e := e) (own := "GreenGearsLaw") ⟨B.exec, B.bytes, hml, hown, hts⟩ hM
    ⟨callB_of _ hts (g_goodin hj) rfl rfl rfl (hts _ w2) (hts _ w1) ⟨a4.1, a4.2, by rw [a5, hna]⟩ ⟨by show d + 1 + 1 ≤ d + 2; omega, by show 8 + (g_nl 208 + 11) + 200 * (d + 1) ≤ 200 * (d + 2); omega⟩, hts _ w3, hts _ w4⟩
    ⟨x_blind, ⟨cell, hc2, hc3, hc4⟩, x_PC_at (fun q hq => Or.inr hq) hK hxK hxZ hP hD hS⟩ rfl rfl hl.1 rfl (lv_room (show (1 + (1 + 0) : Nat) ≤ 8 by decide)) hdg ⟨Nat.le_refl _, Nat.le_refl _⟩
  refine x_after2 (hpc := 13) (fun q hq => Or.inr hq) hl hD hS hrun2 (fun r9 h' hp => ?_) (fun H1 locs1 q ce k1 k2 k3 hw => ?_) (fun h' q hp => ?_)
  · obtain ⟨⟨v9, rfl⟩, hI'⟩ := hp
    obtain ⟨f9, hg9, hw9⟩ := iv_outJ hI'
    refine t_at_ok hcl hfull (pc := 8) (n := 1) (pc' := 9) (L' := _) (st' := [.long v9.toInt64, .int (Int32.ofInt 0), .ref (A 106)]) rfl ?_
    refine iv_lastore hcl (hfull _ (iv_in (c := []) (pc := 9) rfl)) hg9 (fun hv => ?_) ?_
    · rcases hv with hv | hv
      · exact absurd hv (by decide)
      · exact absurd hv (by decide)
    refine iv_goto hcl (hfull _ (iv_in (c := []) (pc := 10) rfl)) ?_
    refine t_at_ok hcl hfull (pc := 17) (n := 1) (pc' := 18) (L' := _) (st' := [.int (Int32.ofInt 0)]) rfl ?_
    refine g_endW B.exec B.bytes B.returns B.notSynchronized _ ?_
    exact ⟨Nat.le_refl _, Nat.le_refl _, Or.inl ⟨Int32.ofInt 0, .int, x_lof_end.2, rfl, rfl, rfl, ⟨_, rfl⟩, hw9 _⟩⟩
  · have hx0 : tableOf [(0, 10, 13, 13)] = [⟨0, 10, 13, 13⟩] := rfl
    refine vx_catch (own := "GreenGearsLaw") (name := x_E) (E := x_E) (ce := ce) hown [] ⟨0, 10, 13, 13⟩ [] (by rw [htab, hx0]; rfl) (fun z hz => by cases hz) (show covers ⟨0, 10, 13, 13⟩ 5 = true by decide) (by decide) (hts _ (x_w_in (List.mem_cons_of_mem _ (List.mem_cons_of_mem _ List.mem_cons_self)))) (va_Nw.use rfl (hxK.1 _ x_cast_in)) k1 k2 k3 hw
  · refine t_at_ok hcl hfull (pc := 13) (n := 2) (pc' := 16) (L' := _) (st' := [.int (Int32.ofInt 1)]) rfl ?_
    refine g_endW B.exec B.bytes B.returns B.notSynchronized _ ?_
    exact ⟨Nat.le_refl _, Nat.le_refl _, Or.inl ⟨Int32.ofInt 1, .int, x_lof_end.1, rfl, rfl, rfl, ⟨_, rfl⟩, hp⟩⟩
set_option maxRecDepth 100000 in
theorem x_lrow_end : decode method_4_code 13 = .ok (.ireturn, 1) ∧ decode method_4_code 15 = .ok (.ireturn, 1) := by decide +kernel
def x_lrow_y : MethodName := ⟨"GreenGearsLaw", "row", "(LGreenGears;I[J)I"⟩
def x_lrow_c : Cond := .codeWith x_lrow_y method_4_code 4 (some .int) [(0, 8, 11, 13)]
def x_lrow_ws : List Cond := x_lrow_c :: g_wsl
def x_lrow_t : List s_I := [(0, 1, 1, 0, 2, 2, 0, .aload_n 2), (1, 1, 0, 0, 0, 0, 0, .iconst 0), (2, 1, 1, 0, 0, 2, 0, .aload_n 0), (3, 1, 1, 0, 1, 0, 0, .iload_n 1), (4, 3, 50, 0, 0, 0, 0, .invokevirtual 15), (7, 1, 33, 0, 1, 0, 0, .lastore), (8, 3, 20, 0, 14, 0, 0, .goto 6), (11, 1, 2, 0, 3, 2, 0, .astore_n 3), (12, 1, 0, 0, 0, 0, 1, .iconst 1), (13, 1, 40, 0, 0, 0, 0, .ireturn), (14, 1, 0, 0, 0, 0, 0, .iconst 0), (15, 1, 40, 0, 0, 0, 0, .ireturn)]
set_option maxRecDepth 100000 in
theorem x_lrow_ok : x_lrow_t.all (s_okI method_4_code 13) = true := by decide +kernel
set_option maxRecDepth 100000 in
theorem x_lrow_in : (x_lrow_c ∈ lw_tbl ∧ goodWord x_lrow_c = true) ∧ plainName x_lrow_y.cls = true ∧ g_cn 13 = "GreenGearsLaw" ∧ decode method_4_code 4 = .ok (.invokevirtual 15, 3) ∧ 209 < g_mt.length ∧ g_nl 209 = 2 ∧ (g_me 209).2.2 = 1 ∧ (g_me 209).2.1 = 11 ∧ (Cond.methodLink "GreenGearsLaw" 15 (g_y 209) ∈ g_wsl ∧ Cond.initialized (g_y 209).cls ∈ g_wsl ∧ Cond.instanceMethod (g_y 209) ∈ g_wsl ∧ Cond.selects (g_y 209).cls (g_y 209) (g_y 209) ∈ g_wsl) := by decide +kernel
theorem x_lrow_wsl : x_lrow_c ∈ g_wsl := List.mem_filter.mpr x_lrow_in.1
theorem x_lrow_good : GoodIn g_wsl x_lrow_ws := by
  intro w hw
  have hm : w ∈ g_wsl := by
    rcases List.mem_cons.mp hw with rfl | h1
    · exact x_lrow_wsl
    · exact h1
  exact ⟨hm, good_of_word (g_wsl_good w hm)⟩
theorem x_lrow2 (l : Launch) (htr : l.stackTraces = false) {d : Nat} (hd : d = 50) {x o : Addr} {u : Int32} {h : g_H} {A : Nat → Nat} (hI : iv_J A h) (hx : x = A 0) (ho : o = A 106)
    (D : va_G) (dA : Nat → ClassId) (sz : Nat) :
    Met l x_lrow_y x_lrow_ws (g_room (d + 2) 1 6) (x_Pc D dA [.ref (A 0), .int u, .ref (A 106)] h sz) (g_Qc dA D h sz (fun r h' => (∃ v, r = some (.int v)) ∧ iv_J A h')) 1 6 (va_A (g_tw dA h) sz) := by
  subst hx ho
  obtain ⟨⟨n0, f0, hq0⟩, -, fo, hgo⟩ := iv_sh_ok (iv_J_inv hI)
  obtain ⟨-, hpn, hcn, hdg, hj, hnl, hna, hme, w1, w2, w3, w4⟩ := x_lrow_in
  obtain ⟨a1, a2, a3, a4, a5, a6⟩ := g_me_ok hj
  refine va_MetW (cc := method_4_code) (maxL := 4) (ret := some .int) (hh := [(0, 8, 11, 13)]) hpn rfl ?_
  intro p e s m args below meth c s₁ B hml hv
  obtain ⟨rfl, hsz, hP, hK, hD0, hxK, hxZ⟩ := hv
  have hts0 := atoms_spec (ws := x_lrow_ws) B.pre
  have hts : ∀ w ∈ g_wsl, w.before _ s = true := fun w hw => hts0 w (List.mem_cons_of_mem _ hw)
  have htab := vx_table (x := x_lrow_y) B (hts0 _ List.mem_cons_self)
  have hown : s.vm.findClass (g_cn 13) = some m.cls := by rw [hcn]; exact findClass_of_methodNamed B.named
  subst hsz
  have hl := lv_entry [.ref (A 0), .int u, .ref (A 106)] (n := 4) (by show 3 ≤ 4; decide)
  rw [lg_entry_eq]
  have hC : g_Cx p s m _ meth c method_4_code 13 4 false D dA := ⟨B.exec, B.bytes, hml, hown, hts, hK, fun h9 => by cases h9⟩
  have hcl : ∀ S, g_pre (g_run d) 13 4 false 0 0 method_4_code (g_G p l e (g_room (d + 2) 1 6) s m [.ref (A 0), .int u, .ref (A 106)].toArray below meth c 4 D dA (va_A (g_tw dA h) s.heap.size) s.heap (MQ below (g_Qc dA D h s.heap.size (fun r h' => (∃ v, r = some (.int v)) ∧ iv_J A h')) [.ref (A 0), .int u, .ref (A 106)].toArray s 1 6 (va_A (g_tw dA h) s.heap.size))) S → _ := fun S hS => g_sP hC (fun q hq => Or.inr hq) (Nat.zero_le _) (Nat.zero_le _) (by show d + 1 ≤ d + 2; omega) (by show 200 * d + 200 ≤ 200 * (d + 2); omega) (g_sound l d) S hS
  have hfull := List.all_eq_true.mp x_lrow_ok
  refine (?_ : g_G p l e (g_room (d + 2) 1 6) s m _ below meth c 4 D dA (va_A (g_tw dA h) s.heap.size) s.heap _ (0, lv_args 0 [.ref (A 0), .int u, .ref (A 106)], [], 0, 0, h)) _ s.heap [] hl hP hD0.self va_S.rf
  refine t_at_ok hcl hfull (pc := 0) (n := 4) (pc' := 4) (L' := [(0, .ref (A 0)), (1, .int u), (2, .ref (A 106))]) (st' := [.int u, .ref (A 0), .int (Int32.ofInt 0), .ref (A 106)]) rfl ?_
  intro ls H locs hl hP hD hS
  have hq' := g_tw_at (dA := dA) hq0
  have hclx : ∃ q : vw_C, g_cl[11]? = some q ∧ q.1 = (g_y 209).cls := by
    obtain ⟨r, hr1, -⟩ := hP 0 _ hq'
    refine ⟨r, hr1, ?_⟩
    have hlt : 11 < g_fl.length := by
      have := (List.getElem?_eq_some_iff.mp hr1).1
      rw [g_cl, List.length_map] at this; exact this
    rw [g_cl_at hlt] at hr1
    cases hr1
    rw [a2, hme]
  obtain ⟨rc, hrc1, hrc2⟩ := hclx
  obtain ⟨cell, hc2, hc3, hc4⟩ := va_recv hK.1 hP hrc1 hq'
  rw [hrc2] at hc4
  rw [hcn] at hown
  have hM := x_row2 l htr (d := d) (by omega) (as := [.ref (A 0), .int u]) (h := h) (post := iv_J A) (ret := fun r h' => (∃ v, r = some (.long v)) ∧ iv_J A h') (by show 2 ≤ 2; decide) (by subst hd; exact iv_o209J A h u hI) D dA H.size
  have hrun2 := vx_runV (cells := 0) (slots := 0) (H := H) (locs := locs) (g := F0 m 4 ls [.int u, .ref (A 0), .int (Int32.ofInt 0), .ref (A 106)]) (rest := [.int (Int32.ofInt 0), .ref (A 106)]) (b := A 0) (As := [.int u]) (n := 1) (R := g_room (d + 2) 1 6) (below := below) (meth := meth) (l := l) (e := e) (own := "GreenGearsLaw") ⟨B.exec, B.bytes, hml, hown, hts⟩ hM
    ⟨callB_of _ hts (g_goodin hj) rfl rfl rfl (hts _ w2) (hts _ w1) ⟨a4.1, a4.2, by rw [a5, hna]⟩ ⟨by show d + 1 + 1 ≤ d + 2; omega, by show 8 + (g_nl 209 + 11) + 200 * (d + 1) ≤ 200 * (d + 2); omega⟩, hts _ w3, hts _ w4⟩
    ⟨x_blind, ⟨cell, hc2, hc3, hc4⟩, x_PC_at (fun q hq => Or.inr hq) hK hxK hxZ hP hD hS⟩ rfl rfl hl.1 rfl (lv_room (show (1 + (1 + 0) : Nat) ≤ 8 by decide)) hdg ⟨Nat.le_refl _, Nat.le_refl _⟩
  refine x_after2 (hpc := 11) (fun q hq => Or.inr hq) hl hD hS hrun2 (fun r9 h' hp => ?_) (fun H1 locs1 q ce k1 k2 k3 hw => ?_) (fun h' q hp => ?_)
  · obtain ⟨⟨v9, rfl⟩, hI'⟩ := hp
    obtain ⟨f9, hg9, hw9⟩ := iv_outJ hI'
    refine iv_lastore hcl (hfull _ (iv_in (c := []) (pc := 7) rfl)) hg9 (fun hv => ?_) ?_
    · rcases hv with hv | hv
      · exact absurd hv (by decide)
      · exact absurd hv (by decide)
    refine iv_goto hcl (hfull _ (iv_in (c := []) (pc := 8) rfl)) ?_
    refine t_at_ok hcl hfull (pc := 14) (n := 1) (pc' := 15) (L' := _) (st' := [.int (Int32.ofInt 0)]) rfl ?_
    refine g_endW B.exec B.bytes B.returns B.notSynchronized _ ?_
    exact ⟨Nat.le_refl _, Nat.le_refl _, Or.inl ⟨Int32.ofInt 0, .int, x_lrow_end.2, rfl, rfl, rfl, ⟨_, rfl⟩, hw9 _⟩⟩
  · have hx0 : tableOf [(0, 8, 11, 13)] = [⟨0, 8, 11, 13⟩] := rfl
    refine vx_catch (own := "GreenGearsLaw") (name := x_E) (E := x_E) (ce := ce) hown [] ⟨0, 8, 11, 13⟩ [] (by rw [htab, hx0]; rfl) (fun z hz => by cases hz) (show covers ⟨0, 8, 11, 13⟩ 4 = true by decide) (by decide) (hts _ (x_w_in (List.mem_cons_of_mem _ (List.mem_cons_of_mem _ List.mem_cons_self)))) (va_Nw.use rfl (hxK.1 _ x_cast_in)) k1 k2 k3 hw
  · refine t_at_ok hcl hfull (pc := 11) (n := 2) (pc' := 13) (L' := _) (st' := [.int (Int32.ofInt 1)]) rfl ?_
    refine g_endW B.exec B.bytes B.returns B.notSynchronized _ ?_
    exact ⟨Nat.le_refl _, Nat.le_refl _, Or.inl ⟨Int32.ofInt 1, .int, x_lrow_end.1, rfl, rfl, rfl, ⟨_, rfl⟩, hp⟩⟩
