-- the plain machine's methods are the Java machine's: calls, contracts
def g_Pc (D : va_G) (dA : Nat → ClassId) (as : List Value) (h : g_H) (sz : Nat) : Array Value → State → Prop := va_Pc as (fun U => U.heap.size = sz ∧ va_P D g_cl (g_tw dA h) U.heap ∧ g_K4 D dA U ∧ va_D (fun _ => True) (g_tw dA h))
def g_Qc (dA : Nat → ClassId) (D : va_G) (h : g_H) (sz : Nat) (post : Option Value → g_H → Prop) : Array Value → State → Outcome → State → Prop := fun _ st oc t => (∃ r h', oc = .returned r ∧ post r h' ∧ va_P D g_cl (g_tw dA h') t.heap ∧ va_D (va_A (g_tw dA h) sz) (g_tw dA h')) ∧ va_F (va_A (g_tw dA h) sz) st t
def g_room (d mc ms : Nat) : Room := { frames := d, cells := mc, slots := ms, locals := 200 * d }
def g_Ws (j : Nat) : List Cond := .code (g_y j) (g_by j) (g_nl j) (g_rt j) :: g_wsl
/-- a family of calls is sound: each is a contract -/
def g_Snd (l : Launch) (fr : Nat) (CALL : Nat → List Value → g_H → Nat → Nat → (Option Value → g_H → Prop) → Prop) : Prop :=
  ∀ j as h mc ms post, CALL j as h mc ms post → j < g_mt.length → ∀ D dA sz, Met l (g_y j) (g_Ws j) (g_room fr mc ms) (g_Pc D dA as h sz) (g_Qc dA D h sz post) mc ms (va_A (g_tw dA h) sz)
theorem g_blind {D : va_G} {dA : Nat → ClassId} {as : List Value} {h : g_H} {sz : Nat} : FrameBlind (g_Pc D dA as h sz) := by
  intro a U g mk q
  obtain ⟨q0, q1, qP, qK, qD⟩ := q
  exact ⟨q0, q1, qP, g_K4.same (u := U) (U := U.calling g mk a) rfl qK, qD⟩
theorem g_goodin {j : Nat} (h : j < g_mt.length) : GoodIn g_wsl (g_Ws j) := by
  intro w hw
  have hm : w ∈ g_wsl := by
    rcases List.mem_cons.mp hw with rfl | h1
    · exact (g_me_ok h).1
    · exact h1
  exact ⟨hm, good_of_word (g_wsl_good w hm)⟩
section G8
variable {p : Program} {l : Launch} {e : Env} {R : Room} {s : State} {m : MethodId} {args : Array Value} {below : List Frame} {meth : Method} {c : Code} {cc : ByteArray} {o nL : Nat} {ini : Bool} {D : va_G} {dA : Nat → ClassId} {A : Nat → Prop} {H0 : Heap} {Q : State → Prop}
variable {ins : Instr} {len pc bc bs : Nat} {L : g_L} {st : List Value} {w : g_W}
/-- behind a call -/
theorem g_after {a : Array Value} {h : g_H} {H : Heap} {locs : List Loc} {ls : Array Slot} {st0 rest : List Value} {mc ms cells slots : Nat} {post : Option Value → g_H → Prop} (hA : ∀ q, H0.size ≤ q → A q) (hl : lv_has ls nL L) (hD : va_D A (g_tw dA h)) (hS : va_S A H0 H locs)
    (hr : va_Run p l e R s m args below meth c H locs cells slots mc ms (F0 m pc ls st0) rest (g_Qc dA D h H.size post a) (va_A (g_tw dA h) H.size))
    (kk : ∀ r h', post r h' → g_G p l e R s m args below meth c nL D dA A H0 Q (pc + 3, L, r.toList ++ rest, cells + mc, slots + ms, h')) : W p l e R s m args below meth c H locs cells slots Q (F0 m pc ls st0) := by
  have hF : ∀ q, va_A (g_tw dA h) H.size q → A q := by
    intro q hq
    rcases hq with ⟨k, e, hk⟩ | hq
    · exact hD.2 k (q, e) hk
    · exact hA q (Nat.le_trans hS.1 hq)
  intro T hT X
  obtain ⟨v, st₀, t, T', L', h0, X', hL, e1, e2, ⟨⟨r, h', hv, hp', hP', hD'⟩, hz, hk⟩, stp⟩ := hr T hT X
  cases hv
  rw [h0] at hz hk
  obtain ⟨t2, a1, b1⟩ := kk v h' hp' ls T'.heap (locs ++ L') hl (by rw [e1]; exact hP') (hD'.weaken (fun _ _ _ hq => hF _ hq))
    ⟨Nat.le_trans hS.1 (by rw [e1]; exact hz), fun q h1 h2 => by rw [e1, hk q (Nat.lt_of_lt_of_le h1 hS.1) (fun z => h2 (hF q z))]; exact hS.2.1 q h1 h2, fun q hq => by
      rcases List.mem_append.mp hq with h | h
      · exact hS.2.2 q h
      · exact hF _ (hL q h)⟩ T' rfl X'
  exact ⟨t2, stp t2 a1, b1⟩
theorem g_sE {CALL : Nat → List Value → g_H → Nat → Nat → (Option Value → g_H → Prop) → Prop} {fr : Nat} (C : g_Cx p s m args meth c cc o nL ini D dA) (hA : ∀ q, H0.size ≤ q → A q) (hbc : bc ≤ R.cells) (hbs : bs ≤ R.slots) (hfr : fr + 1 ≤ R.frames) (hlo : 200 * fr + 200 ≤ R.locals) (hC : g_Snd l fr CALL)
    (hdg : decode cc pc = .ok (ins, len)) (h : g_doE CALL o bc bs ins len pc L st w (g_G p l e R s m args below meth c nL D dA A H0 Q)) : g_G p l e R s m args below meth c nL D dA A H0 Q (pc, L, st, w) := by
  obtain ⟨hx, hb, hml, hown, hts, hK4, hin⟩ := C
  have hK := hK4.1
  intro ls H locs hl hP hD hS
  have hDT : va_D (fun _ => True) (g_tw dA w.2.2) := hD.weaken (fun _ _ _ _ => trivial)
  have hPc : ∀ (as : List Value) (U : State), U.heap = H → s.WarmedH U.vm → g_Pc D dA as w.2.2 H.size as.toArray U := fun as U hU hW => ⟨rfl, by rw [hU], by rw [hU]; exact hP, g_K4.moved hW hK4, hDT⟩
  have hroom : ∀ (rest : List Value) (j : Nat) (ls' : Array Slot) (stt : List Value), g_sum rest ≤ 8 → 2 * (F0 m pc ls stt).monitorRoom + (rest.map fun v => v.category).sum ≤ 8 := fun rest j ls' stt hr => lv_room hr
  have hcb : ∀ (j mc ms n i : Nat), j < g_mt.length → n = (g_me j).2.2 → (Cond.initialized (g_y j).cls).before args s = true → (Cond.methodLink (g_cn o) i (g_y j)).before args s = true → CallB R s args (g_cn o) i (g_y j) (g_by j) (g_nl j) (g_rt j) (g_Ws j) (g_room fr mc ms) mc ms n := by
    intro j mc ms n i hj hn h1 h2
    obtain ⟨a1, a2, a3, a4, a5, a6⟩ := g_me_ok hj
    subst hn
    exact callB_of _ hts (g_goodin hj) rfl rfl rfl h1 h2 ⟨a4.1, a4.2, a5⟩ ⟨hfr, by show 8 + (g_nl j + 11) + 200 * fr ≤ R.locals; omega⟩
  have hcn : ∀ (j mc ms n i : Nat), j < g_mt.length → n = (g_me j).2.2 → (Cond.initialized (g_y j).cls).before args s = true → va_Nw (.methodLinkNest (g_cn o) i (g_y j) "GreenGears") s → va_CN R s args (g_cn o) i (g_y j) "GreenGears" (g_by j) (g_nl j) (g_rt j) (g_Ws j) (g_room fr mc ms) mc ms n := by
    intro j mc ms n i hj hn h1 h2
    obtain ⟨a1, a2, a3, a4, a5, a6⟩ := g_me_ok hj
    subst hn
    exact va_cnB _ hts (g_goodin hj) rfl rfl rfl h2 h1 ⟨a4.1, a4.2, a5⟩ ⟨hfr, by show 8 + (g_nl j + 11) + 200 * fr ≤ R.locals; omega⟩
  rcases h with ⟨i, kd, j, n, v, ps, As, b, rest, q, nf, f, mc, ms, rfl, rfl, hkd, hlk, e2, hn, hq, hr, hc1, hs1, hcall⟩ | ⟨i, kd, j, n, v, ps, As, rest, mc, ms, rfl, rfl, hkd, hlk, e2, hn, hr, hc1, hs1, hcall⟩ | ⟨i, kd, j, n, v, ps, As, b, rest, mc, ms, rfl, rfl, hkd, hlk, e2, hn, hr, hc1, hs1, hcall⟩ | ⟨i, a0, b0, v, ps, a, rest, rfl, rfl, hlk, e2, hr, k⟩
  · have hw := g_wds hts hK4 hlk
    have hn0 := (g_lk_in hlk).2
    have hq' := g_tw_at (dA := dA) hq
    rcases hkd with rfl | rfl
    · simp only [g_lkn, Bool.and_eq_true, decide_eq_true_eq, beq_iff_eq] at hn0
      obtain ⟨a1, a2, a3, a4, a5, a6⟩ := g_me_ok hn0.1
      have hcl : ∃ q : vw_C, g_cl[(g_me j).2.1]? = some q ∧ q.1 = (g_y j).cls := by
        obtain ⟨r, hr1, -⟩ := hP q _ hq'
        refine ⟨r, hr1, ?_⟩
        have hlt : (g_me j).2.1 < g_fl.length := by
          have := (List.getElem?_eq_some_iff.mp hr1).1
          rw [g_cl, List.length_map] at this; exact this
        rw [g_cl_at hlt] at hr1
        cases hr1
        exact a2.symm
      obtain ⟨rc, hrc1, hrc2⟩ := hcl
      obtain ⟨cell, hc2, hc3, hc4⟩ := va_recv hK hP hrc1 hq'
      rw [hrc2] at hc4
      exact g_after (D := D) (h := w.2.2) hA hl hD hS (va_runV ⟨hx, hb, hml, hown, hts⟩ (hC j _ _ mc ms _ hcall hn0.1 D dA H.size) ⟨hcb j mc ms n i hn0.1 hn0.2 (hw _ (List.mem_cons_of_mem _ List.mem_cons_self)) (hw _ List.mem_cons_self), hw _ (List.mem_cons_of_mem _ (List.mem_cons_of_mem _ List.mem_cons_self)), hw _ (List.mem_cons_of_mem _ (List.mem_cons_of_mem _ (List.mem_cons_of_mem _ List.mem_cons_self)))⟩ ⟨g_blind, ⟨cell, hc2, hc3, hc4⟩, hPc _⟩ rfl hn hl.1 e2 (hroom rest j ls st hr) hdg ⟨Nat.le_trans hc1 hbc, Nat.le_trans hs1 hbs⟩) (fun r h' hp => hp)
    · simp only [g_lkn, Bool.and_eq_true, decide_eq_true_eq, beq_iff_eq] at hn0
      obtain ⟨a1, a2, a3, a4, a5, a6⟩ := g_me_ok hn0.1
      have hcl : ∃ q : vw_C, g_cl[(g_me j).2.1]? = some q ∧ q.1 = (g_y j).cls := by
        obtain ⟨r, hr1, -⟩ := hP q _ hq'
        refine ⟨r, hr1, ?_⟩
        have hlt : (g_me j).2.1 < g_fl.length := by
          have := (List.getElem?_eq_some_iff.mp hr1).1
          rw [g_cl, List.length_map] at this; exact this
        rw [g_cl_at hlt] at hr1
        cases hr1
        exact a2.symm
      obtain ⟨rc, hrc1, hrc2⟩ := hcl
      obtain ⟨cell, hc2, hc3, hc4⟩ := va_recv hK hP hrc1 hq'
      rw [hrc2] at hc4
      exact g_after (D := D) (h := w.2.2) hA hl hD hS (va_runVN ⟨hx, hb, hml, hown, hts⟩ (hC j _ _ mc ms _ hcall hn0.1 D dA H.size) ⟨hcn j mc ms n i hn0.1 hn0.2 (hw _ (List.mem_cons_of_mem _ List.mem_cons_self)) (va_Nw.of rfl (hw _ List.mem_cons_self)), hw _ (List.mem_cons_of_mem _ (List.mem_cons_of_mem _ List.mem_cons_self)), hw _ (List.mem_cons_of_mem _ (List.mem_cons_of_mem _ (List.mem_cons_of_mem _ List.mem_cons_self)))⟩ ⟨g_blind, ⟨cell, hc2, hc3, hc4⟩, hPc _⟩ rfl hn hl.1 e2 (hroom rest j ls st hr) hdg ⟨Nat.le_trans hc1 hbc, Nat.le_trans hs1 hbs⟩) (fun r h' hp => hp)
  · have hw := g_wds hts hK4 hlk
    have hn0 := (g_lk_in hlk).2
    rcases hkd with rfl | rfl
    · simp only [g_lkn, Bool.and_eq_true, decide_eq_true_eq, beq_iff_eq] at hn0
      exact g_after (D := D) (h := w.2.2) hA hl hD hS (va_runS ⟨hx, hb, hml, hown, hts⟩ (hC j _ _ mc ms _ hcall hn0.1 D dA H.size) ⟨hcb j mc ms n i hn0.1 hn0.2 (hw _ (List.mem_cons_of_mem _ List.mem_cons_self)) (hw _ List.mem_cons_self), hw _ (List.mem_cons_of_mem _ (List.mem_cons_of_mem _ List.mem_cons_self))⟩ ⟨g_blind, hPc _⟩ rfl hn hl.1 e2 (hroom rest j ls st hr) hdg ⟨Nat.le_trans hc1 hbc, Nat.le_trans hs1 hbs⟩) (fun r h' hp => hp)
    · simp only [g_lkn, Bool.and_eq_true, decide_eq_true_eq, beq_iff_eq] at hn0
      exact g_after (D := D) (h := w.2.2) hA hl hD hS (va_runSN ⟨hx, hb, hml, hown, hts⟩ (hC j _ _ mc ms _ hcall hn0.1 D dA H.size) ⟨hcn j mc ms n i hn0.1 hn0.2 (hw _ (List.mem_cons_of_mem _ List.mem_cons_self)) (va_Nw.of rfl (hw _ List.mem_cons_self)), hw _ (List.mem_cons_of_mem _ (List.mem_cons_of_mem _ List.mem_cons_self)), trivial⟩ ⟨g_blind, hPc _⟩ rfl hn hl.1 e2 (hroom rest j ls st hr) hdg ⟨Nat.le_trans hc1 hbc, Nat.le_trans hs1 hbs⟩) (fun r h' hp => hp)
  · have hw := g_wds hts hK4 hlk
    have hn0 := (g_lk_in hlk).2
    rcases hkd with rfl | rfl
    · simp only [g_lkn, Bool.and_eq_true, decide_eq_true_eq, beq_iff_eq, Option.isNone_iff_eq_none] at hn0
      obtain ⟨⟨⟨b1, b2⟩, b3⟩, b4⟩ := hn0
      have hcb2 := hcb j mc ms n i b1 b2 (hw _ (List.mem_cons_of_mem _ List.mem_cons_self)) (hw _ List.mem_cons_self)
      rw [b4] at hcb2
      exact g_after (D := D) (h := w.2.2) hA hl hD hS (va_runI ⟨hx, hb, hml, hown, hts⟩ (hC j _ _ mc ms _ hcall b1 D dA H.size) ⟨hcb2, b3, hw _ (List.mem_cons_of_mem _ (List.mem_cons_of_mem _ List.mem_cons_self))⟩ ⟨g_blind, hPc _⟩ rfl hn hl.1 e2 (hroom rest j ls st hr) hdg ⟨Nat.le_trans hc1 hbc, Nat.le_trans hs1 hbs⟩) (fun r h' hp => hp)
    · simp only [g_lkn, Bool.and_eq_true, decide_eq_true_eq, beq_iff_eq, Option.isNone_iff_eq_none] at hn0
      obtain ⟨⟨⟨b1, b2⟩, b3⟩, b4⟩ := hn0
      have hcn2 := hcn j mc ms n i b1 b2 (hw _ (List.mem_cons_of_mem _ List.mem_cons_self)) (va_Nw.of rfl (hw _ List.mem_cons_self))
      rw [b4] at hcn2
      exact g_after (D := D) (h := w.2.2) hA hl hD hS (va_runIN ⟨hx, hb, hml, hown, hts⟩ (hC j _ _ mc ms _ hcall b1 D dA H.size) ⟨hcn2, b3, hw _ (List.mem_cons_of_mem _ (List.mem_cons_of_mem _ List.mem_cons_self))⟩ ⟨g_blind, hPc _⟩ rfl hn hl.1 e2 (hroom rest j ls st hr) hdg ⟨Nat.le_trans hc1 hbc, Nat.le_trans hs1 hbs⟩) (fun r h' hp => hp)
  · have hw := g_wds hts hK4 hlk
    cases e2
    have hr' : (rest.map fun v => v.category).sum ≤ 8 := hr
    exact W.objInit hx hb hown (hw _ List.mem_cons_self) (hw _ (List.mem_cons_of_mem _ List.mem_cons_self)) (hts _ g_obj_in) rfl (by rw [hml]; exact hl.1) rfl hdg (by omega) (Nat.le_trans (Nat.add_le_add_right (lv_room hr') 12) (by omega)) (k ls H locs hl hP hD hS)
theorem g_sP {CALL : Nat → List Value → g_H → Nat → Nat → (Option Value → g_H → Prop) → Prop} {fr : Nat} (C : g_Cx p s m args meth c cc o nL ini D dA) (hA : ∀ q, H0.size ≤ q → A q) (hbc : bc ≤ R.cells) (hbs : bs ≤ R.slots) (hfr : fr + 1 ≤ R.frames) (hlo : 200 * fr + 200 ≤ R.locals) (hC : g_Snd l fr CALL) (S : g_S)
    (h : g_pre CALL o nL ini bc bs cc (g_G p l e R s m args below meth c nL D dA A H0 Q) S) : g_G p l e R s m args below meth c nL D dA A H0 Q S := by
  obtain ⟨ins, len, hdg, h | h | h | h | h⟩ := h
  · exact g_sA C hdg h
  · exact g_sB C hdg h
  · exact g_sC C hdg h
  · exact g_sD C hA hbc hbs hdg h
  · exact g_sE C hA hbc hbs hfr hlo hC hdg h
end G8
section G8b
variable {p : Program} {l : Launch} {e : Env} {R : Room} {s : State} {m : MethodId} {args : Array Value} {below : List Frame} {meth : Method} {c : Code} {cc : ByteArray} {o nL : Nat} {ini : Bool} {D : va_G} {dA : Nat → ClassId} {A : Nat → Prop}
theorem g_ofW {y : MethodName} {ws ws' : List Cond} {rm : Room} {Pc : Array Value → State → Prop} {Qc : Array Value → State → Outcome → State → Prop} {mc ms : Nat} {free : Addr → Prop} {cc : ByteArray} {maxL : Nat} {ret : Option FieldType}
    (hy : plainFor y = true) (hw : ws = Cond.code y cc maxL ret :: ws')
    (body : ∀ p e s m args below meth c s₁, BodyLoose p l y (headSpec ws rm) cc maxL ret e s m args below meth c s₁ → c.maxLocals = maxL → Pc args s →
      W p l e (headSpec ws rm).room s m args below meth c s.heap [] 0 0 (MQ below Qc args s mc ms free) (entryFrame m args maxL)) : Met l y ws rm Pc Qc mc ms free := by
  refine MetFree.of_bodySF (code := cc) (maxLocals := maxL) (ret := ret) hy ?_ ?_
  · intro args s m h hn
    obtain ⟨meth, c, h1, h2, h3, h4, h5, h6, -, -⟩ := Cond.code_spec hn (atoms_spec (ws := ws) h _ (by rw [hw]; exact List.mem_cons_self))
    exact ⟨meth, c, h1, h2, h3, h4, h5, h6⟩
  · intro p e s m args below meth c s₁ B hml hP _
    have hh0 : s₁.heap = s.heap := by rw [B.state]; rfl
    obtain ⟨t, a1, o, b1, b2, b3⟩ := body p e s m args below meth c s₁ B hml hP s₁ hh0 (Stand.of_body B)
    exact ⟨t, o, a1, b1, b2, ⟨b3.1, b3.2⟩⟩
theorem g_endW {h : g_H} {rt : Option FieldType} {mc ms : Nat} {post : Option Value → g_H → Prop} (hx : p.tables.exec = Jvm.exec) (hb : c.code = cc) (hr : meth.sig.returnType = rt) (hlocks : meth.locks = false) (S : g_S) (h1 : g_end cc rt mc ms post S) :
    g_G p l e R s m args below meth c nL D dA (va_A (g_tw dA h) s.heap.size) s.heap (MQ below (g_Qc dA D h s.heap.size post) args s mc ms (va_A (g_tw dA h) s.heap.size)) S := by
  intro ls H locs hl hP hD hS
  obtain ⟨hc, hs, h1⟩ := h1
  refine W.widen hc hs ?_
  rcases h1 with ⟨v, ty, hdg, e1, hn, e2, hp⟩ | ⟨v, hdg, e1, e2, hp⟩ | ⟨v, n, hdg, e1, hv, e2, hp⟩ | ⟨hdg, e1, e2, hp⟩
  · rw [e2]
    exact W.zret hx hb (hr.trans e1) hn (fun t ht hW => ⟨⟨_, _, rfl, hp, by rw [ht]; exact hP, hD⟩, hS.F ht⟩) hS.2.2 hdg
  · rw [e2]
    exact W.lret hx hb (hr.trans e1) (fun t ht hW => ⟨⟨_, _, rfl, hp, by rw [ht]; exact hP, hD⟩, hS.F ht⟩) hS.2.2 hdg
  · rw [e2]
    exact W.aret hx hb (hr.trans e1) (Or.inl ⟨n, rfl⟩) hv (fun t ht hW => ⟨⟨_, _, rfl, hp, by rw [ht]; exact hP, hD⟩, hS.F ht⟩) hS.2.2 hdg
  · rw [e2]
    exact W.vret hx hb (hr.trans e1) (fun t ht hW => ⟨⟨_, _, rfl, hp, by rw [ht]; exact hP, hD⟩, hS.F ht⟩) hS.2.2 hdg
end G8b
/-- THE PLAIN MACHINE IS SOUND: what it answers, the Java machine answers -/
theorem g_sound (l : Launch) : ∀ d, g_Snd l d (g_run d)
  | 0 => fun j as h mc ms post hr => hr.elim
  | d + 1 => by
    intro j as h mc ms post hr hj D dA sz
    obtain ⟨-, hlen, hWP⟩ := hr
    obtain ⟨a1, a2, a3, a4, a5, a6⟩ := g_me_ok hj
    refine g_ofW (cc := g_by j) (maxL := g_nl j) (ret := g_rt j) a3 rfl ?_
    intro p e s m args below meth c s₁ B hml hv
    obtain ⟨rfl, hsz, hP, hK, hD0⟩ := hv
    have hts0 := atoms_spec (ws := g_Ws j) B.pre
    have hts : ∀ w ∈ g_wsl, w.before as.toArray s = true := fun w hw => hts0 w (List.mem_cons_of_mem _ hw)
    have hown : s.vm.findClass (g_cn (g_me j).2.1) = some m.cls := by rw [← a2]; exact findClass_of_methodNamed B.named
    have hnm := (name_of_methodNamed B.named B.method).1
    subst hsz
    have hl := lv_entry as (n := g_nl j) hlen
    rw [lg_entry_eq]
    have hC : g_Cx p s m as.toArray meth c (g_by j) (g_me j).2.1 (g_nl j) ((g_y j).name == "<init>") D dA := ⟨B.exec, B.bytes, hml, hown, hts, hK, fun h9 => by rw [hnm]; exact beq_iff_eq.mp h9⟩
    exact hWP (g_G p l e (g_room (d + 1) mc ms) s m as.toArray below meth c (g_nl j) D dA (va_A (g_tw dA h) s.heap.size) s.heap (MQ below (g_Qc dA D h s.heap.size post) as.toArray s mc ms (va_A (g_tw dA h) s.heap.size)))
      (fun S hS => g_endW B.exec B.bytes B.returns B.notSynchronized S hS)
      (fun S hS => g_sP hC (fun q hq => Or.inr hq) (Nat.le_refl _) (Nat.le_refl _) (Nat.le_refl _) (by show 200 * d + 200 ≤ 200 * (d + 1); omega) (g_sound l d) S hS)
      _ s.heap [] hl hP hD0.self va_S.rf
