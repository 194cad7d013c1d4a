-- the law's two helpers: they catch what of and row throw
section T62
variable {p : Program} {l : Launch} {e : Env} {R : Room} {s : State} {m : MethodId} {args : Array Value} {below : List Frame} {meth : Method} {c : Code} {nL : Nat} {D : va_G} {dA : Nat → ClassId} {A : Nat → Prop} {H0 : Heap} {Q : State → Prop} {pc hpc : Nat} {L : g_L}
/-- behind a call that throws -/
theorem x_after {h : g_H} {H : Heap} {locs : List Loc} {ls : Array Slot} {st0 rest : List Value} {mc ms cells slots : Nat} {post : g_H → Prop} (hA : ∀ q, H0.size ≤ q → A q) (hl : lv_has ls nL L) (hD : va_D A (g_tw dA h)) (hS : va_S A H0 H locs)
    (hr : vx_Run p l e R s m args below meth c H locs cells slots mc ms (F0 m pc ls st0) rest (fun _ _ _ => False) (x_XC D dA h H.size post) (va_A (g_tw dA h) H.size))
    (hcatch : ∀ (H1 : Heap) (locs1 : List Loc) (q : Addr) (ce : Cell), H1[q]? = some ce → ce.vm = .none → s.vm.findClass x_E = some ce.cls → W p l e R s m args below meth c H1 locs1 (cells + mc) (slots + ms) Q (F0 m hpc ls [.ref q]) → vx_W p l e R s m args below meth c H1 locs1 (cells + mc) (slots + ms) Q (F0 m pc ls rest) q)
    (kk : ∀ (h' : g_H) (q : Addr), post h' → g_G p l e R s m args below meth c nL D dA A H0 Q (hpc, L, [.ref q], cells + mc, slots + ms, h')) : W p l e R s m args below meth c H locs cells slots Q (F0 m pc ls st0) := by
  have hF : ∀ q, va_A (g_tw dA h) H.size q → A q := by
    intro q hq
    rcases hq with ⟨k, e, hk⟩ | hq
    · exact hD.2 k (q, e) hk
    · exact hA q (Nat.le_trans hS.1 hq)
  intro T hT X
  rcases hr T hT X with ⟨v, st₀, t, T', L', h0, X', hL, e1, e2, hq, st⟩ | ⟨q, st₀, t, T', L', E, ce, h0, X', hL, e1, e2, ⟨hE, ⟨h', hp, hP', hD'⟩, hz, hk⟩, hce, hcv, hcl, st⟩
  · exact hq.elim
  · subst hE
    rw [h0] at hz hk
    have hS' : va_S A H0 T'.heap (locs ++ L') := ⟨Nat.le_trans hS.1 (by rw [e1]; exact hz), fun q h1 h2 => by rw [e1, hk q (Nat.lt_of_lt_of_le h1 hS.1) (fun z => h2 (hF q z))]; exact hS.2.1 q h1 h2, fun q hq => by
      rcases List.mem_append.mp hq with h | h
      · exact hS.2.2 q h
      · exact hF _ (hL q h)⟩
    have hw := kk h' q hp ls T'.heap (locs ++ L') hl (by rw [e1]; exact hP') (hD'.weaken (fun _ _ _ hq => hF _ hq)) hS'
    obtain ⟨t2, b1, b2⟩ := hcatch T'.heap (locs ++ L') q ce (by rw [e1]; exact hce) hcv hcl hw T' rfl X'
    exact ⟨t2, st.trans b1, b2⟩
end T62
theorem x_PC_at {D : va_G} {dA : Nat → ClassId} {h' : g_H} {A : Nat → Prop} {s : State} {H : Heap} {locs : List Loc} {as : List Value} (hA : ∀ q, s.heap.size ≤ q → A q) (hK : g_K4 D dA s) (hX : x_K s) (hZ : x_Z A s s.heap) (hP : va_P D g_cl (g_tw dA h') H) (hD : va_D A (g_tw dA h')) (hS : va_S A s.heap H locs) :
    ∀ U : State, U.heap = H → s.WarmedH U.vm → x_Pc D dA as h' H.size as.toArray U := by
  intro U hU hW
  refine ⟨rfl, by rw [hU], by rw [hU]; exact hP, g_K4.moved hW hK, hD.weaken (fun _ _ _ _ => trivial), x_K.moved hW hX, ?_⟩
  rw [hU]
  refine x_Z.narrow (x_Z.moved hW.alike (hZ.kept hS.2.1)) (fun q hq => ?_)
  rcases hq with ⟨k, e, hk⟩ | hq
  · exact hD.2 k (q, e) hk
  · exact hA q (Nat.le_trans hS.1 hq)
set_option maxRecDepth 100000 in
theorem x_cast_in : Cond.castable x_E x_E ∈ x_nsl := by decide +kernel
set_option maxRecDepth 100000 in
theorem x_lof_end : decode method_3_code 16 = .ok (.ireturn, 1) := by decide +kernel
def x_lof_y : MethodName := ⟨"GreenGearsLaw", "of", "(LGreenGears;II[J)I"⟩
def x_lof_c : Cond := .codeWith x_lof_y method_3_code 5 (some .int) [(0, 10, 13, 13)]
def x_lof_ws : List Cond := x_lof_c :: g_wsl
def x_lof_t : List s_I := [(0, 1, 1, 0, 3, 2, 0, .aload_n 3), (1, 1, 0, 0, 0, 0, 0, .iconst 0), (2, 1, 1, 0, 0, 2, 0, .aload_n 0), (3, 1, 1, 0, 1, 0, 0, .iload_n 1), (4, 1, 1, 0, 2, 0, 0, .iload_n 2), (5, 3, 50, 0, 0, 0, 0, .invokevirtual 7), (13, 2, 2, 0, 4, 2, 0, .astore 4), (15, 1, 0, 0, 0, 0, 1, .iconst 1), (16, 1, 40, 0, 0, 0, 0, .ireturn)]
set_option maxRecDepth 100000 in
theorem x_lof_ok : x_lof_t.all (s_okI method_3_code 13) = true := by decide +kernel
set_option maxRecDepth 100000 in
theorem x_lof_in : (x_lof_c ∈ lw_tbl ∧ goodWord x_lof_c = true) ∧ plainName x_lof_y.cls = true ∧ g_cn 13 = "GreenGearsLaw" ∧ decode method_3_code 5 = .ok (.invokevirtual 7, 3) ∧ 208 < g_mt.length ∧ g_nl 208 = 3 ∧ (g_me 208).2.2 = 2 ∧ (g_me 208).2.1 = 11 ∧ (Cond.methodLink "GreenGearsLaw" 7 (g_y 208) ∈ g_wsl ∧ Cond.initialized (g_y 208).cls ∈ g_wsl ∧ Cond.instanceMethod (g_y 208) ∈ g_wsl ∧ Cond.selects (g_y 208).cls (g_y 208) (g_y 208) ∈ g_wsl) := by decide +kernel
theorem x_lof_wsl : x_lof_c ∈ g_wsl := List.mem_filter.mpr x_lof_in.1
theorem x_lof_good : GoodIn g_wsl x_lof_ws := by
  intro w hw
  have hm : w ∈ g_wsl := by
    rcases List.mem_cons.mp hw with rfl | h1
    · exact x_lof_wsl
    · exact h1
  exact ⟨hm, good_of_word (g_wsl_good w hm)⟩
theorem x_lof (l : Launch) (htr : l.stackTraces = false) {d : Nat} (hd : 10 ≤ d) {x o : Addr} {u v : Int32} {h : g_H} {post : g_H → Prop} {q0 n0 : Nat} {f0 : Nat → Value} (hq0 : g_get h q0 = some (x, false, 11, n0, f0))
    (hrun : ∀ P : g_S → Prop, (∀ L h', post h' → P (11, L, [], 0, 0, h')) → (∀ S, g_pre (g_run d) 11 3 false 0 0 (g_by 208) P S → P S) → P (0, lv_args 0 [.ref x, .int u, .int v], [], 0, 0, h)) (D : va_G) (dA : Nat → ClassId) (sz : Nat) :
    Met l x_lof_y x_lof_ws (g_room (d + 2) 1 6) (x_Pc D dA [.ref x, .int u, .int v, .ref o] h sz) (g_Qc dA D h sz (fun r h' => r = some (.int (Int32.ofInt 1)) ∧ post h')) 1 6 (va_A (g_tw dA h) sz) := by
  obtain ⟨-, hpn, hcn, hdg, hj, hnl, hna, hme, w1, w2, w3, w4⟩ := x_lof_in
  obtain ⟨a1, a2, a3, a4, a5, a6⟩ := g_me_ok hj
  refine va_MetW (cc := method_3_code) (maxL := 5) (ret := some .int) (hh := [(0, 10, 13, 13)]) hpn rfl ?_
  intro p e s m args below meth c s₁ B hml hv
  obtain ⟨rfl, hsz, hP, hK, hD0, hxK, hxZ⟩ := hv
  have hts0 := atoms_spec (ws := x_lof_ws) B.pre
  have hts : ∀ w ∈ g_wsl, w.before _ s = true := fun w hw => hts0 w (List.mem_cons_of_mem _ hw)
  have htab := vx_table (x := x_lof_y) B (hts0 _ List.mem_cons_self)
  have hown : s.vm.findClass (g_cn 13) = some m.cls := by rw [hcn]; exact findClass_of_methodNamed B.named
  subst hsz
  have hl := lv_entry [.ref x, .int u, .int v, .ref o] (n := 5) (by show 4 ≤ 5; decide)
  rw [lg_entry_eq]
  have hC : g_Cx p s m _ meth c method_3_code 13 5 false D dA := ⟨B.exec, B.bytes, hml, hown, hts, hK, fun h9 => by cases h9⟩
  have hcl : ∀ S, g_pre (g_run d) 13 5 false 0 0 method_3_code (g_G p l e (g_room (d + 2) 1 6) s m [.ref x, .int u, .int v, .ref o].toArray below meth c 5 D dA (va_A (g_tw dA h) s.heap.size) s.heap (MQ below (g_Qc dA D h s.heap.size (fun r h' => r = some (.int (Int32.ofInt 1)) ∧ post h')) [.ref x, .int u, .int v, .ref o].toArray s 1 6 (va_A (g_tw dA h) s.heap.size))) S → _ := fun S hS => g_sP hC (fun q hq => Or.inr hq) (Nat.zero_le _) (Nat.zero_le _) (by show d + 1 ≤ d + 2; omega) (by show 200 * d + 200 ≤ 200 * (d + 2); omega) (g_sound l d) S hS
  have hfull := List.all_eq_true.mp x_lof_ok
  refine (?_ : g_G p l e (g_room (d + 2) 1 6) s m _ below meth c 5 D dA (va_A (g_tw dA h) s.heap.size) s.heap _ (0, lv_args 0 [.ref x, .int u, .int v, .ref o], [], 0, 0, h)) _ s.heap [] hl hP hD0.self va_S.rf
  refine t_at_ok hcl hfull (pc := 0) (n := 5) (pc' := 5) (L' := [(0, .ref x), (1, .int u), (2, .int v), (3, .ref o)]) (st' := [.int v, .int u, .ref x, .int (Int32.ofInt 0), .ref o]) rfl ?_
  intro ls H locs hl hP hD hS
  have hq' := g_tw_at (dA := dA) hq0
  have hclx : ∃ q : vw_C, g_cl[11]? = some q ∧ q.1 = (g_y 208).cls := by
    obtain ⟨r, hr1, -⟩ := hP q0 _ hq'
    refine ⟨r, hr1, ?_⟩
    have hlt : 11 < g_fl.length := by
      have := (List.getElem?_eq_some_iff.mp hr1).1
      rw [g_cl, List.length_map] at this; exact this
    rw [g_cl_at hlt] at hr1
    cases hr1
    rw [a2, hme]
  obtain ⟨rc, hrc1, hrc2⟩ := hclx
  obtain ⟨cell, hc2, hc3, hc4⟩ := va_recv hK.1 hP hrc1 hq'
  rw [hrc2] at hc4
  rw [hcn] at hown
  have hM := x_of l htr (d := d) hd (as := [.ref x, .int u, .int v]) (h := h) (post := post) (by show 3 ≤ 3; decide) hrun D dA H.size
  have hrun2 := vx_runV (cells := 0) (slots := 0) (H := H) (locs := locs) (g := F0 m 5 ls [.int v, .int u, .ref x, .int (Int32.ofInt 0), .ref o]) (rest := [.int (Int32.ofInt 0), .ref o]) (b := x) (As := [.int u, .int v]) (n := 2) (R := g_room (d + 2) 1 6) (below := below) (meth := meth) (l := l) (e := e) (own := "GreenGearsLaw") ⟨B.exec, B.bytes, hml, hown, hts⟩ hM
    ⟨callB_of _ hts (g_goodin hj) rfl rfl rfl (hts _ w2) (hts _ w1) ⟨a4.1, a4.2, by rw [a5, hna]⟩ ⟨by show d + 1 + 1 ≤ d + 2; omega, by show 8 + (g_nl 208 + 11) + 200 * (d + 1) ≤ 200 * (d + 2); omega⟩, hts _ w3, hts _ w4⟩
    ⟨x_blind, ⟨cell, hc2, hc3, hc4⟩, x_PC_at (fun q hq => Or.inr hq) hK hxK hxZ hP hD hS⟩ rfl rfl hl.1 rfl (lv_room (show (1 + (1 + 0) : Nat) ≤ 8 by decide)) hdg ⟨Nat.le_refl _, Nat.le_refl _⟩
  refine x_after (hpc := 13) (fun q hq => Or.inr hq) hl hD hS hrun2 (fun H1 locs1 q ce k1 k2 k3 hw => ?_) (fun h' q hp => ?_)
  · have hx0 : tableOf [(0, 10, 13, 13)] = [⟨0, 10, 13, 13⟩] := rfl
    refine vx_catch (own := "GreenGearsLaw") (name := x_E) (E := x_E) (ce := ce) hown [] ⟨0, 10, 13, 13⟩ [] (by rw [htab, hx0]; rfl) (fun z hz => by cases hz) (show covers ⟨0, 10, 13, 13⟩ 5 = true by decide) (by decide) (hts _ (x_w_in (List.mem_cons_of_mem _ (List.mem_cons_of_mem _ List.mem_cons_self)))) (va_Nw.use rfl (hxK.1 _ x_cast_in)) k1 k2 k3 hw
  · refine t_at_ok hcl hfull (pc := 13) (n := 2) (pc' := 16) (L' := _) (st' := [.int (Int32.ofInt 1)]) rfl ?_
    refine g_endW B.exec B.bytes B.returns B.notSynchronized _ ?_
    exact ⟨Nat.le_refl _, Nat.le_refl _, Or.inl ⟨Int32.ofInt 1, .int, x_lof_end, rfl, rfl, rfl, rfl, hp⟩⟩
set_option maxRecDepth 100000 in
theorem x_lrow_end : decode method_4_code 13 = .ok (.ireturn, 1) := by decide +kernel
def x_lrow_y : MethodName := ⟨"GreenGearsLaw", "row", "(LGreenGears;I[J)I"⟩
def x_lrow_c : Cond := .codeWith x_lrow_y method_4_code 4 (some .int) [(0, 8, 11, 13)]
def x_lrow_ws : List Cond := x_lrow_c :: g_wsl
def x_lrow_t : List s_I := [(0, 1, 1, 0, 2, 2, 0, .aload_n 2), (1, 1, 0, 0, 0, 0, 0, .iconst 0), (2, 1, 1, 0, 0, 2, 0, .aload_n 0), (3, 1, 1, 0, 1, 0, 0, .iload_n 1), (4, 3, 50, 0, 0, 0, 0, .invokevirtual 15), (11, 1, 2, 0, 3, 2, 0, .astore_n 3), (12, 1, 0, 0, 0, 0, 1, .iconst 1), (13, 1, 40, 0, 0, 0, 0, .ireturn)]
set_option maxRecDepth 100000 in
theorem x_lrow_ok : x_lrow_t.all (s_okI method_4_code 13) = true := by decide +kernel
set_option maxRecDepth 100000 in
theorem x_lrow_in : (x_lrow_c ∈ lw_tbl ∧ goodWord x_lrow_c = true) ∧ plainName x_lrow_y.cls = true ∧ g_cn 13 = "GreenGearsLaw" ∧ decode method_4_code 4 = .ok (.invokevirtual 15, 3) ∧ 209 < g_mt.length ∧ g_nl 209 = 2 ∧ (g_me 209).2.2 = 1 ∧ (g_me 209).2.1 = 11 ∧ (Cond.methodLink "GreenGearsLaw" 15 (g_y 209) ∈ g_wsl ∧ Cond.initialized (g_y 209).cls ∈ g_wsl ∧ Cond.instanceMethod (g_y 209) ∈ g_wsl ∧ Cond.selects (g_y 209).cls (g_y 209) (g_y 209) ∈ g_wsl) := by decide +kernel
theorem x_lrow_wsl : x_lrow_c ∈ g_wsl := List.mem_filter.mpr x_lrow_in.1
theorem x_lrow_good : GoodIn g_wsl x_lrow_ws := by
  intro w hw
  have hm : w ∈ g_wsl := by
    rcases List.mem_cons.mp hw with rfl | h1
    · exact x_lrow_wsl
    · exact h1
  exact ⟨hm, good_of_word (g_wsl_good w hm)⟩
theorem x_lrow (l : Launch) (htr : l.stackTraces = false) {d : Nat} (hd : 10 ≤ d) {x o : Addr} {u : Int32} {h : g_H} {post : g_H → Prop} {q0 n0 : Nat} {f0 : Nat → Value} (hq0 : g_get h q0 = some (x, false, 11, n0, f0))
    (hrun : ∀ P : g_S → Prop, (∀ L h', post h' → P (11, L, [], 0, 0, h')) → (∀ S, g_pre (g_run d) 11 2 false 0 0 (g_by 209) P S → P S) → P (0, lv_args 0 [.ref x, .int u], [], 0, 0, h)) (D : va_G) (dA : Nat → ClassId) (sz : Nat) :
    Met l x_lrow_y x_lrow_ws (g_room (d + 2) 1 6) (x_Pc D dA [.ref x, .int u, .ref o] h sz) (g_Qc dA D h sz (fun r h' => r = some (.int (Int32.ofInt 1)) ∧ post h')) 1 6 (va_A (g_tw dA h) sz) := by
  obtain ⟨-, hpn, hcn, hdg, hj, hnl, hna, hme, w1, w2, w3, w4⟩ := x_lrow_in
  obtain ⟨a1, a2, a3, a4, a5, a6⟩ := g_me_ok hj
  refine va_MetW (cc := method_4_code) (maxL := 4) (ret := some .int) (hh := [(0, 8, 11, 13)]) hpn rfl ?_
  intro p e s m args below meth c s₁ B hml hv
  obtain ⟨rfl, hsz, hP, hK, hD0, hxK, hxZ⟩ := hv
  have hts0 := atoms_spec (ws := x_lrow_ws) B.pre
  have hts : ∀ w ∈ g_wsl, w.before _ s = true := fun w hw => hts0 w (List.mem_cons_of_mem _ hw)
  have htab := vx_table (x := x_lrow_y) B (hts0 _ List.mem_cons_self)
  have hown : s.vm.findClass (g_cn 13) = some m.cls := by rw [hcn]; exact findClass_of_methodNamed B.named
  subst hsz
  have hl := lv_entry [.ref x, .int u, .ref o] (n := 4) (by show 3 ≤ 4; decide)
  rw [lg_entry_eq]
  have hC : g_Cx p s m _ meth c method_4_code 13 4 false D dA := ⟨B.exec, B.bytes, hml, hown, hts, hK, fun h9 => by cases h9⟩
  have hcl : ∀ S, g_pre (g_run d) 13 4 false 0 0 method_4_code (g_G p l e (g_room (d + 2) 1 6) s m [.ref x, .int u, .ref o].toArray below meth c 4 D dA (va_A (g_tw dA h) s.heap.size) s.heap (MQ below (g_Qc dA D h s.heap.size (fun r h' => r = some (.int (Int32.ofInt 1)) ∧ post h')) [.ref x, .int u, .ref o].toArray s 1 6 (va_A (g_tw dA h) s.heap.size))) S → _ := fun S hS => g_sP hC (fun q hq => Or.inr hq) (Nat.zero_le _) (Nat.zero_le _) (by show d + 1 ≤ d + 2; omega) (by show 200 * d + 200 ≤ 200 * (d + 2); omega) (g_sound l d) S hS
  have hfull := List.all_eq_true.mp x_lrow_ok
  refine (?_ : g_G p l e (g_room (d + 2) 1 6) s m _ below meth c 4 D dA (va_A (g_tw dA h) s.heap.size) s.heap _ (0, lv_args 0 [.ref x, .int u, .ref o], [], 0, 0, h)) _ s.heap [] hl hP hD0.self va_S.rf
  refine t_at_ok hcl hfull (pc := 0) (n := 4) (pc' := 4) (L' := [(0, .ref x), (1, .int u), (2, .ref o)]) (st' := [.int u, .ref x, .int (Int32.ofInt 0), .ref o]) rfl ?_
  intro ls H locs hl hP hD hS
  have hq' := g_tw_at (dA := dA) hq0
  have hclx : ∃ q : vw_C, g_cl[11]? = some q ∧ q.1 = (g_y 209).cls := by
    obtain ⟨r, hr1, -⟩ := hP q0 _ hq'
    refine ⟨r, hr1, ?_⟩
    have hlt : 11 < g_fl.length := by
      have := (List.getElem?_eq_some_iff.mp hr1).1
      rw [g_cl, List.length_map] at this; exact this
    rw [g_cl_at hlt] at hr1
    cases hr1
    rw [a2, hme]
  obtain ⟨rc, hrc1, hrc2⟩ := hclx
  obtain ⟨cell, hc2, hc3, hc4⟩ := va_recv hK.1 hP hrc1 hq'
  rw [hrc2] at hc4
  rw [hcn] at hown
  have hM := x_row l htr (d := d) hd (as := [.ref x, .int u]) (h := h) (post := post) (by show 2 ≤ 2; decide) hrun D dA H.size
  have hrun2 := vx_runV (cells := 0) (slots := 0) (H := H) (locs := locs) (g := F0 m 4 ls [.int u, .ref x, .int (Int32.ofInt 0), .ref o]) (rest := [.int (Int32.ofInt 0), .ref o]) (b := x) (As := [.int u]) (n := 1) (R := g_room (d + 2) 1 6) (below := below) (meth := meth) (l := l) (e := e) (own := "GreenGearsLaw") ⟨B.exec, B.bytes, hml, hown, hts⟩ hM
    ⟨callB_of _ hts (g_goodin hj) rfl rfl rfl (hts _ w2) (hts _ w1) ⟨a4.1, a4.2, by rw [a5, hna]⟩ ⟨by show d + 1 + 1 ≤ d + 2; omega, by show 8 + (g_nl 209 + 11) + 200 * (d + 1) ≤ 200 * (d + 2); omega⟩, hts _ w3, hts _ w4⟩
    ⟨x_blind, ⟨cell, hc2, hc3, hc4⟩, x_PC_at (fun q hq => Or.inr hq) hK hxK hxZ hP hD hS⟩ rfl rfl hl.1 rfl (lv_room (show (1 + (1 + 0) : Nat) ≤ 8 by decide)) hdg ⟨Nat.le_refl _, Nat.le_refl _⟩
  refine x_after (hpc := 11) (fun q hq => Or.inr hq) hl hD hS hrun2 (fun H1 locs1 q ce k1 k2 k3 hw => ?_) (fun h' q hp => ?_)
  · have hx0 : tableOf [(0, 8, 11, 13)] = [⟨0, 8, 11, 13⟩] := rfl
    refine vx_catch (own := "GreenGearsLaw") (name := x_E) (E := x_E) (ce := ce) hown [] ⟨0, 8, 11, 13⟩ [] (by rw [htab, hx0]; rfl) (fun z hz => by cases hz) (show covers ⟨0, 8, 11, 13⟩ 4 = true by decide) (by decide) (hts _ (x_w_in (List.mem_cons_of_mem _ (List.mem_cons_of_mem _ List.mem_cons_self)))) (va_Nw.use rfl (hxK.1 _ x_cast_in)) k1 k2 k3 hw
  · refine t_at_ok hcl hfull (pc := 11) (n := 2) (pc' := 13) (L' := _) (st' := [.int (Int32.ofInt 1)]) rfl ?_
    refine g_endW B.exec B.bytes B.returns B.notSynchronized _ ?_
    exact ⟨Nat.le_refl _, Nat.le_refl _, Or.inl ⟨Int32.ofInt 1, .int, x_lrow_end, rfl, rfl, rfl, rfl, hp⟩⟩
