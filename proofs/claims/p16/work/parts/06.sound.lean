-- joined: 06.sound, 07.sound2, 08.sound3, 10.sx, 13.do, 14.run, 14a.lem, 14b.step, 14c.step2
section
-- the plain machine's steps are the Java machine's
theorem g_me_mem {j : Nat} (h : j < g_mt.length) : g_me j ∈ g_mt := by
  unfold g_me
  rw [List.getD_eq_getElem?_getD, List.getElem?_eq_getElem h]
  exact List.getElem_mem h
/-- what the checks say of a method -/
theorem g_me_ok {j : Nat} (h : j < g_mt.length) : Cond.code (g_y j) (g_by j) (g_nl j) (g_rt j) ∈ g_wsl ∧ (g_y j).cls = g_cn (g_me j).2.1 ∧ plainFor (g_y j) = true ∧ ((g_y j).cls ≠ "java/lang/invoke/MethodHandle" ∧ (g_y j).cls ≠ "java/lang/invoke/VarHandle") ∧ (parseMethodDescriptor (g_y j).desc).map (fun d => d.parameters.length) = some (g_me j).2.2 ∧ g_nl j ≤ 100 := by
  have h1 := List.all_eq_true.mp g_mt_ok _ (g_me_mem h)
  simp only [g_mtok, Bool.and_eq_true, decide_eq_true_eq, beq_iff_eq] at h1
  obtain ⟨⟨⟨⟨⟨⟨a1, a2⟩, a3⟩, a4⟩, a5⟩, a6⟩, a7⟩ := h1
  exact ⟨List.mem_filter.mpr ⟨List.mem_append_right _ (g_isc_in a1), a7⟩, a2, a3, a4, a5, a6⟩
theorem g_lk_in {r : g_LK} (h : r ∈ g_lk) : (∀ w ∈ g_wd r.1 r.2.1 r.2.2.1 r.2.2.2.1 r.2.2.2.2.1 r.2.2.2.2.2.1, w ∈ g_wsl ∨ w ∈ g_nsl) ∧ g_lkn r = true := by
  have h1 := List.all_eq_true.mp g_lk_ok r h
  simp only [g_lkok, Bool.and_eq_true, decide_eq_true_eq] at h1
  obtain ⟨⟨a1, a2⟩, a3⟩ := h1
  refine ⟨fun w hw => ?_, a3⟩
  have h2 := List.all_eq_true.mp a2 w hw
  rw [a1] at hw
  obtain ⟨i, -, hi⟩ := List.mem_filterMap.mp hw
  rw [lw_tb_eq] at hi
  have hm := List.mem_of_getElem? hi
  rcases (Bool.or_eq_true _ _).mp h2 with h3 | h3
  · exact Or.inl (List.mem_filter.mpr ⟨hm, h3⟩)
  · exact Or.inr (List.mem_filter.mpr ⟨hm, h3⟩)
theorem g_cl_at {ci : Nat} (h : ci < g_fl.length) : g_cl[ci]? = some (g_cn ci, g_TT (g_fl.getD ci ("", [])), (g_fl.getD ci ("", [])).2.length) := by
  have hl : ci < g_cl.length := by rw [g_cl, List.length_map]; exact h
  have h1 := List.all_eq_true.mp g_cn_ok ci (List.mem_range.mpr hl)
  have h2 : g_cl[ci]? = some ((g_fl.getD ci ("", [])).1, g_TT (g_fl.getD ci ("", [])), (g_fl.getD ci ("", [])).2.length) := by
    rw [g_cl, List.getElem?_map, List.getD_eq_getElem?_getD, List.getElem?_eq_getElem h]
    rfl
  rw [h2] at h1
  rw [h2]
  simp only [Bool.and_eq_true, beq_iff_eq] at h1
  rw [h1.1]
theorem g_tw_at {dA : Nat → ClassId} {h : g_H} {q a : Nat} {c : g_HC} (e : g_get h q = some (a, c)) : (g_tw dA h)[q]? = some (a, g_tr dA c) := by
  unfold g_tw
  rw [List.getElem?_map]
  have e' : h[q]? = some (a, c) := e
  rw [e']
  rfl
theorem g_tw_set {dA : Nat → ClassId} {h : g_H} {q a : Nat} {c : g_HC} : g_tw dA (h.set q (a, c)) = (g_tw dA h).set q (a, g_tr dA c) := by
  unfold g_tw
  rw [List.map_set]
theorem g_tw_app {dA : Nat → ClassId} {h : g_H} {a : Nat} {c : g_HC} : g_tw dA (h ++ [(a, c)]) = g_tw dA h ++ [(a, g_tr dA c)] := by
  unfold g_tw
  rw [List.map_append]
  rfl
/-- what the tables say, as contracts hand it on -/
def g_K4 (D : va_G) (dA : Nat → ClassId) (U : State) : Prop := va_K D g_cl (g_tys dA) U ∧ va_AO g_bu U ∧ ∀ w ∈ g_nsl, va_Nw w U
theorem g_K4.moved {D : va_G} {dA : Nat → ClassId} {u U : State} (hW : u.WarmedH U.vm) (h : g_K4 D dA u) : g_K4 D dA U := by
  refine ⟨va_K.moved hW.alike h.1, va_AO.moved hW.alike h.2.1, fun w hw => ?_⟩
  have h1 := h.2.2 w hw
  have h2 := (List.mem_filter.mp hw).2
  cases w <;> simp only [g_isn, Bool.false_eq_true] at h2
  · exact va_Nw.warmM hW h1
  · exact va_Nw.warmF hW h1
theorem g_K4.same {D : va_G} {dA : Nat → ClassId} {u U : State} (e : u.vm = U.vm) (h : g_K4 D dA u) : g_K4 D dA U := by
  refine ⟨va_K.moved (by rw [e]; exact Vm.Alike.refl U.vm) h.1, va_AO.moved (by rw [e]; exact Vm.Alike.refl U.vm) h.2.1, fun w hw => va_Nw.same (g_nst (List.mem_filter.mp hw).2) e (h.2.2 w hw)⟩
theorem g_wds {D : va_G} {dA : Nat → ClassId} {s : State} {args : Array Value} (hts : ∀ w ∈ g_wsl, w.before args s = true) (hK : g_K4 D dA s) {r : g_LK} (h : r ∈ g_lk) : ∀ w ∈ g_wd r.1 r.2.1 r.2.2.1 r.2.2.2.1 r.2.2.2.2.1 r.2.2.2.2.2.1, w.before args s = true := by
  intro w hw
  rcases (g_lk_in h).1 w hw with h1 | h1
  · exact hts w h1
  · exact va_Nw.use (g_nst (List.mem_filter.mp h1).2) (hK.2.2 w h1)
def g_Cx (p : Program) (s : State) (m : MethodId) (args : Array Value) (meth : Method) (c : Code) (cc : ByteArray) (o nL : Nat) (ini : Bool) (D : va_G) (dA : Nat → ClassId) : Prop :=
  p.tables.exec = Jvm.exec ∧ c.code = cc ∧ c.maxLocals = nL ∧ s.vm.findClass (g_cn o) = some m.cls ∧ (∀ w ∈ g_wsl, w.before args s = true) ∧ g_K4 D dA s ∧ (ini = true → meth.name = "<init>")
def g_G (p : Program) (l : Launch) (e : Env) (R : Room) (s : State) (m : MethodId) (args : Array Value) (below : List Frame) (meth : Method) (c : Code) (nL : Nat) (D : va_G) (dA : Nat → ClassId) (A : Nat → Prop) (H0 : Heap) (Q : State → Prop) (S : g_S) : Prop :=
  ∀ (ls : Array Slot) (H : Heap) (locs : List Loc), lv_has ls nL S.2.1 → va_P D g_cl (g_tw dA S.2.2.2.2.2) H → va_D A (g_tw dA S.2.2.2.2.2) → va_S A H0 H locs → W p l e R s m args below meth c H locs S.2.2.2.1 S.2.2.2.2.1 Q (F0 m S.1 ls S.2.2.1)
section G6
variable {p : Program} {l : Launch} {e : Env} {R : Room} {s : State} {m : MethodId} {args : Array Value} {below : List Frame} {meth : Method} {c : Code} {cc : ByteArray} {o nL : Nat} {ini : Bool} {D : va_G} {dA : Nat → ClassId} {A : Nat → Prop} {H0 : Heap} {Q : State → Prop}
variable {ins : Instr} {len pc : Nat} {L : g_L} {st : List Value} {w : g_W}
theorem g_sA (C : g_Cx p s m args meth c cc o nL ini D dA) (hdg : decode cc pc = .ok (ins, len)) (h : g_doA o nL ins len pc L st w (g_G p l e R s m args below meth c nL D dA A H0 Q)) : g_G p l e R s m args below meth c nL D dA A H0 Q (pc, L, st, w) := by
  obtain ⟨hx, hb, hml, hown, hts, hK4, hin⟩ := C
  have hK := hK4.1
  intro ls H locs hl hP hD hS
  rcases h with ⟨v, e1, k⟩ | ⟨i, t, v, e1, hm, ht, k⟩ | ⟨i, t, v, rest, e1, e2, ht, hi, k⟩ | ⟨i, t, v, rest, e1, e2, ht, hi, k⟩ | ⟨i, n, x, rfl, hlen, hm, hi, k⟩ | ⟨v, rest, rfl, rfl, e2, hv, k⟩ | ⟨v, rest, rfl, rfl, e2, hv, k⟩ | ⟨v, u, rest, rfl, rfl, e2, hv, hu, k⟩ | ⟨v, u, rest, rfl, rfl, e2, hv, hu, k⟩ | ⟨v, rest, rfl, rfl, e2, hv, k⟩ | ⟨i, kd, a0, b0, v, ps, e1, hlk, k⟩ | ⟨i, kd, a0, b0, v, ps, rfl, rfl, hkd, hlk, k⟩
  · cases ins <;> simp only [g_con, reduceCtorEq, Option.some.injEq, Prod.mk.injEq] at e1 <;> obtain ⟨rfl, rfl⟩ := e1
    · exact lv_null hx hb hdg (k ls H locs hl hP hD hS)
    · exact lv_bipush hx hb hdg rfl (k ls H locs hl hP hD hS)
    · exact lv_iconst hx hb hdg rfl (k ls H locs hl hP hD hS)
    · exact lv_lconst hx hb hdg rfl (k ls H locs hl hP hD hS)
    · exact lv_sipush hx hb hdg rfl (k ls H locs hl hP hD hS)
  · cases ins <;> simp only [g_load, reduceCtorEq, Option.some.injEq, Prod.mk.injEq] at e1 <;> obtain ⟨rfl, rfl, rfl⟩ := e1 <;> cases v <;> simp only [Bool.false_eq_true] at ht
    · exact lv_aloadN hx hb hdg (hl.2.2 _ hm) (k ls H locs hl hP hD hS)
    · exact lv_aload hx hb hdg (hl.2.2 _ hm) (k ls H locs hl hP hD hS)
    · exact lv_aload_nN hx hb hdg rfl (hl.2.2 _ hm) (k ls H locs hl hP hD hS)
    · exact lv_aload_n hx hb hdg rfl (hl.2.2 _ hm) (k ls H locs hl hP hD hS)
    · exact lv_dload_n hx hb hdg rfl (hl.2.2 _ hm) (k ls H locs hl hP hD hS)
    · exact lv_iload hx hb hdg (hl.2.2 _ hm) (k ls H locs hl hP hD hS)
    · exact lv_iload_n hx hb hdg rfl (hl.2.2 _ hm) (k ls H locs hl hP hD hS)
    · exact lv_lload hx hb hdg (hl.2.2 _ hm) (k ls H locs hl hP hD hS)
    · exact lv_lload_n hx hb hdg rfl (hl.2.2 _ hm) (k ls H locs hl hP hD hS)
  · cases e2
    cases ins <;> simp only [g_stor, reduceCtorEq, Option.some.injEq, Prod.mk.injEq, Bool.false_eq_true, Bool.true_eq_false, false_and, and_false] at e1 <;> obtain ⟨rfl, rfl, -, rfl⟩ := e1 <;> cases v <;> simp only [Bool.false_eq_true] at ht
    · exact lv_astoreN hx hb hdg hl hi rfl (fun ls' hl' => k ls' H locs hl' hP hD hS)
    · exact lv_astore hx hb hdg hl hi rfl (fun ls' hl' => k ls' H locs hl' hP hD hS)
    · exact lv_astore_nN hx hb hdg rfl hl hi rfl (fun ls' hl' => k ls' H locs hl' hP hD hS)
    · exact lv_astore_n hx hb hdg rfl hl hi rfl (fun ls' hl' => k ls' H locs hl' hP hD hS)
    · exact lv_istore hx hb hdg hl hi rfl (fun ls' hl' => k ls' H locs hl' hP hD hS)
    · exact lv_istore_n hx hb hdg rfl hl hi rfl (fun ls' hl' => k ls' H locs hl' hP hD hS)
  · cases e2
    cases ins <;> simp only [g_stor, reduceCtorEq, Option.some.injEq, Prod.mk.injEq, Bool.false_eq_true, Bool.true_eq_false, false_and, and_false] at e1 <;> obtain ⟨rfl, rfl, -, rfl⟩ := e1 <;> cases v <;> simp only [Bool.false_eq_true] at ht
    · exact lv_dstore_n hx hb hdg rfl hl hi rfl (fun ls' hl' => k ls' H locs hl' hP hD hS)
    · exact lv_lstore hx hb hdg hl hi rfl (fun ls' hl' => k ls' H locs hl' hP hD hS)
    · exact lv_lstore_n hx hb hdg rfl hl hi rfl (fun ls' hl' => k ls' H locs hl' hP hD hS)
  · obtain ⟨q, hq⟩ := List.getElem?_of_mem hm
    rcases hlen with rfl | rfl
    · exact lv_iinc hx hb hdg hl hq rfl hi rfl (fun ls' hl' => k ls' H locs hl' hP hD hS)
    · exact lv_iincW hx hb hdg hl hq rfl hi rfl (fun ls' hl' => k ls' H locs hl' hP hD hS)
  · cases e2
    exact lv_dup hx hb hdg hv (k ls H locs hl hP hD hS)
  · cases e2
    exact lv_pop hx hb hdg hv (k ls H locs hl hP hD hS)
  · cases e2
    exact lv_dup_x1 hx hb hdg hv hu (k ls H locs hl hP hD hS)
  · cases e2
    exact lv_dup2_11 hx hb hdg hv hu (k ls H locs hl hP hD hS)
  · cases e2
    exact lv_dup2_2 hx hb hdg hv (k ls H locs hl hP hD hS)
  · have hw := g_wds hts hK4 hlk
    cases ins <;> simp only [g_ldc, reduceCtorEq, Option.some.injEq, Prod.mk.injEq] at e1 <;> obtain ⟨rfl, rfl, rfl⟩ := e1
    · exact lv_ldc hx hb hown (hw _ List.mem_cons_self) hdg (k ls H locs hl hP hD hS)
    · exact lv_ldcw hx hb hown (hw _ List.mem_cons_self) hdg (k ls H locs hl hP hD hS)
  · have hw := g_wds hts hK4 hlk
    rcases hkd with rfl | rfl
    · exact lv_ldc2 hx hb hown (hw _ List.mem_cons_self) hdg (k ls H locs hl hP hD hS)
    · exact lv_ldc2d hx hb hown (hw _ List.mem_cons_self) hdg (k ls H locs hl hP hD hS)
theorem g_sB (C : g_Cx p s m args meth c cc o nL ini D dA) (hdg : decode cc pc = .ok (ins, len)) (h : g_doB ins len pc L st w (g_G p l e R s m args below meth c nL D dA A H0 Q)) : g_G p l e R s m args below meth c nL D dA A H0 Q (pc, L, st, w) := by
  obtain ⟨hx, hb, hml, hown, hts, hK4, hin⟩ := C
  have hK := hK4.1
  intro ls H locs hl hP hD hS
  rcases h with ⟨f, x, y, rest, e1, rfl, e2, k⟩ | ⟨f, x, y, rest, e1, rfl, hne, e2, k⟩ | ⟨f, x, rest, e1, rfl, e2, k⟩ | ⟨f, x, y, rest, e1, rfl, e2, k⟩ | ⟨f, x, y, rest, e1, rfl, hne, e2, k⟩ | ⟨x, rest, rfl, rfl, e2, k⟩ | ⟨x, y, rest, rfl, rfl, e2, k⟩ | ⟨x, rest, rfl, rfl, e2, k⟩ | ⟨x, rest, rfl, rfl, e2, k⟩ | ⟨x, rest, rfl, rfl, e2, k⟩ | ⟨x, y, rest, rfl, rfl, hn, e2, k⟩ | ⟨x, y, rest, rfl, rfl, hn, e2, k⟩ | ⟨op, x, y, rest, rfl, rfl, e2, k⟩
  · cases e2
    cases ins <;> simp only [g_ib, reduceCtorEq, Option.some.injEq] at e1 <;> subst e1
    · exact lv_iadd hx hb hdg (k ls H locs hl hP hD hS)
    · exact lv_iand hx hb hdg (k ls H locs hl hP hD hS)
    · exact lv_imul hx hb hdg (k ls H locs hl hP hD hS)
    · exact lv_ior hx hb hdg (k ls H locs hl hP hD hS)
    · exact lv_ishl hx hb hdg (k ls H locs hl hP hD hS)
    · exact lv_ishr hx hb hdg (k ls H locs hl hP hD hS)
    · exact lv_isub hx hb hdg (k ls H locs hl hP hD hS)
    · exact lv_iushr hx hb hdg rfl (k ls H locs hl hP hD hS)
    · exact lv_ixor hx hb hdg (k ls H locs hl hP hD hS)
  · cases e2
    cases ins <;> simp only [g_id, reduceCtorEq, Option.some.injEq] at e1 <;> subst e1
    · exact lv_idiv hx hb hdg hne (k ls H locs hl hP hD hS)
    · exact lv_irem hx hb hdg hne (k ls H locs hl hP hD hS)
  · cases e2
    cases ins <;> simp only [g_iu, reduceCtorEq, Option.some.injEq] at e1 <;> subst e1
    · exact lv_i2b hx hb hdg rfl (k ls H locs hl hP hD hS)
    · exact lv_i2s hx hb hdg rfl (k ls H locs hl hP hD hS)
    · exact lv_ineg hx hb hdg (k ls H locs hl hP hD hS)
  · cases e2
    cases ins <;> simp only [g_lb, reduceCtorEq, Option.some.injEq] at e1 <;> subst e1
    · exact lv_ladd hx hb hdg (k ls H locs hl hP hD hS)
    · exact lv_lmul hx hb hdg (k ls H locs hl hP hD hS)
    · exact lv_lsub hx hb hdg (k ls H locs hl hP hD hS)
  · cases e2
    cases ins <;> simp only [g_ld, reduceCtorEq, Option.some.injEq] at e1 <;> subst e1
    · exact lv_ldiv hx hb hdg hne (k ls H locs hl hP hD hS)
    · exact lv_lrem hx hb hdg hne (k ls H locs hl hP hD hS)
  · cases e2
    exact lv_lneg hx hb hdg (k ls H locs hl hP hD hS)
  · cases e2
    exact W.lcmp hx hb hdg (k ls H locs hl hP hD hS)
  · cases e2
    exact lv_i2l hx hb hdg rfl (k ls H locs hl hP hD hS)
  · cases e2
    exact lv_l2i hx hb hdg rfl (k ls H locs hl hP hD hS)
  · cases e2
    exact lv_i2d hx hb hdg (k ls H locs hl hP hD hS)
  · cases e2
    exact lv_ddiv hx hb hdg hn (k ls H locs hl hP hD hS)
  · cases e2
    exact lv_dmul hx hb hdg hn (k ls H locs hl hP hD hS)
  · cases e2
    exact lv_dcmp hx hb hdg (k ls H locs hl hP hD hS)
theorem g_sC (C : g_Cx p s m args meth c cc o nL ini D dA) (hdg : decode cc pc = .ok (ins, len)) (h : g_doC ins len pc L st w (g_G p l e R s m args below meth c nL D dA A H0 Q)) : g_G p l e R s m args below meth c nL D dA A H0 Q (pc, L, st, w) := by
  obtain ⟨hx, hb, hml, hown, hts, hK4, hin⟩ := C
  have hK := hK4.1
  intro ls H locs hl hP hD hS
  rcases h with ⟨off, tgt, rfl, rfl, ht, k⟩ | ⟨cd, off, tgt, x, rest, rfl, rfl, ht, e2, k⟩ | ⟨cd, off, tgt, x, y, rest, rfl, rfl, ht, e2, k⟩ | ⟨off, tgt, a, rest, rfl, rfl, ht, ⟨e2, k⟩ | ⟨e2, k⟩⟩ | ⟨off, tgt, a, rest, rfl, rfl, ht, ⟨e2, k⟩ | ⟨e2, k⟩⟩ | ⟨dflt, lo, hi, offs, x, rest, off, tgt, rfl, e2, ht, hsw, k⟩
  · exact lv_goto hx hb hdg ht (k ls H locs hl hP hD hS)
  · cases e2
    cases cd <;> simp only [g_c1, decide_eq_true_eq] at k
    · exact lv_if_eq hx hb hdg ht (fun h => by rw [if_pos h] at k; exact k ls H locs hl hP hD hS) (fun h => by rw [if_neg h] at k; exact k ls H locs hl hP hD hS)
    · exact lv_if_ne hx hb hdg ht (fun h => by rw [if_pos h] at k; exact k ls H locs hl hP hD hS) (fun h => by rw [if_neg (not_not_intro h)] at k; exact k ls H locs hl hP hD hS)
    · exact lv_if_lt hx hb hdg ht (fun h => by rw [if_pos h] at k; exact k ls H locs hl hP hD hS) (fun h => by rw [if_neg h] at k; exact k ls H locs hl hP hD hS)
    · exact lv_if_ge hx hb hdg ht (fun h => by rw [if_pos h] at k; exact k ls H locs hl hP hD hS) (fun h => by rw [if_neg h] at k; exact k ls H locs hl hP hD hS)
    · exact lv_if_gt hx hb hdg ht (fun h => by rw [if_pos h] at k; exact k ls H locs hl hP hD hS) (fun h => by rw [if_neg h] at k; exact k ls H locs hl hP hD hS)
    · exact lv_if_le hx hb hdg ht (fun h => by rw [if_pos h] at k; exact k ls H locs hl hP hD hS) (fun h => by rw [if_neg h] at k; exact k ls H locs hl hP hD hS)
  · cases e2
    cases cd <;> simp only [g_c2, decide_eq_true_eq] at k
    · exact lv_icmp_eq hx hb hdg ht (fun h => by rw [if_pos h] at k; exact k ls H locs hl hP hD hS) (fun h => by rw [if_neg h] at k; exact k ls H locs hl hP hD hS)
    · exact lv_icmp_ne hx hb hdg ht (fun h => by rw [if_pos h] at k; exact k ls H locs hl hP hD hS) (fun h => by rw [if_neg (not_not_intro h)] at k; exact k ls H locs hl hP hD hS)
    · exact lv_icmp_lt hx hb hdg ht (fun h => by rw [if_pos h] at k; exact k ls H locs hl hP hD hS) (fun h => by rw [if_neg h] at k; exact k ls H locs hl hP hD hS)
    · exact lv_icmp_ge hx hb hdg ht (fun h => by rw [if_pos h] at k; exact k ls H locs hl hP hD hS) (fun h => by rw [if_neg h] at k; exact k ls H locs hl hP hD hS)
    · exact lv_icmp_gt hx hb hdg ht (fun h => by rw [if_pos h] at k; exact k ls H locs hl hP hD hS) (fun h => by rw [if_neg h] at k; exact k ls H locs hl hP hD hS)
    · exact lv_icmp_le hx hb hdg ht (fun h => by rw [if_pos h] at k; exact k ls H locs hl hP hD hS) (fun h => by rw [if_neg h] at k; exact k ls H locs hl hP hD hS)
  · cases e2
    exact lv_ifnullN hx hb hdg ht (k ls H locs hl hP hD hS)
  · cases e2
    exact lv_ifnull hx hb hdg (k ls H locs hl hP hD hS)
  · cases e2
    exact lv_ifnonnullN hx hb hdg (k ls H locs hl hP hD hS)
  · cases e2
    exact lv_ifnonnull hx hb hdg ht (k ls H locs hl hP hD hS)
  · cases e2
    rcases hsw with ⟨h1, h2, h3⟩ | ⟨h1, rfl⟩
    · exact lv_tableIn hx hb hdg h1 h2 h3 ht (k ls H locs hl hP hD hS)
    · exact lv_tableOut hx hb hdg h1 ht (k ls H locs hl hP hD hS)
end G6
end
section
-- the plain machine's steps are the Java machine's: fields, arrays, calls
theorem g_ft_eq {ci k : Nat} (h : ci < g_fl.length) : (g_TT (g_fl.getD ci ("", [])) k).2.2.1 = (g_fd ci k).1 ∧ (g_TT (g_fl.getD ci ("", [])) k).2.2.2 = (g_fd ci k).2 ∧ (g_TT (g_fl.getD ci ("", [])) k).2.1 = g_fn ci k ∧ (g_TT (g_fl.getD ci ("", [])) k).1 = g_cn ci := by
  refine ⟨rfl, rfl, rfl, ?_⟩
  have h1 := g_cl_at h
  have h2 : g_cl[ci]? = some ((g_fl.getD ci ("", [])).1, g_TT (g_fl.getD ci ("", [])), (g_fl.getD ci ("", [])).2.length) := by
    rw [g_cl, List.getElem?_map, List.getD_eq_getElem?_getD, List.getElem?_eq_getElem h]
    rfl
  rw [h1] at h2
  have h3 := (Prod.mk.inj (Option.some.inj h2)).1
  exact h3.symm
theorem g_set_fs {n k : Nat} {f : Nat → Value} {v : Value} : ((List.range n).map f).set k v = (List.range n).map (g_up f k v) := by
  apply List.ext_getElem?
  intro j
  rw [List.getElem?_set, List.length_map, List.length_range, List.getElem?_map, List.getElem?_map]
  by_cases hj : j < n
  · rw [List.getElem?_range hj]
    by_cases e : k = j
    · subst e
      simp [hj, g_up]
    · rw [if_neg e]
      simp [g_up, Ne.symm e]
  · rw [List.getElem?_eq_none (by simpa using hj)]
    by_cases e : k = j
    · subst e
      simp [hj]
    · rw [if_neg e]
      rfl
theorem g_get_fs {n k : Nat} {f : Nat → Value} (h : k < n) : ((List.range n).map f)[k]? = some (f k) := by
  rw [List.getElem?_map, List.getElem?_range h]
  rfl
theorem g_getD_fs {n k : Nat} {f : Nat → Value} (h : k < n) : ((List.range n).map f).getD k .null = f k := by
  rw [List.getD_eq_getElem?_getD, g_get_fs h]
  rfl
theorem g_upi {f : Nat → Value} {k : Nat} {x : Int32} : upd (fun j => g_i (f j)) k x = fun j => g_i (g_up f k (.int x) j) := by
  funext j
  unfold upd g_up
  by_cases e : j = k
  · rw [if_pos e, if_pos e]; rfl
  · rw [if_neg e, if_neg e]
theorem g_upl {f : Nat → Value} {k : Nat} {x : Int64} : vp_updL (fun j => g_l (f j)) k x = fun j => g_l (g_up f k (.long x) j) := by
  funext j
  unfold vp_updL g_up
  by_cases e : j = k
  · rw [if_pos e, if_pos e]; rfl
  · rw [if_neg e, if_neg e]
theorem g_upr {f : Nat → Value} {k : Nat} {x : Nat} : va_up (fun j => g_r (f j)) k (some x) = fun j => g_r (g_up f k (.ref x) j) := by
  funext j
  unfold va_up g_up
  by_cases e : j = k
  · rw [if_pos e, if_pos e]; rfl
  · rw [if_neg e, if_neg e]
section G7
variable {p : Program} {l : Launch} {e : Env} {R : Room} {s : State} {m : MethodId} {args : Array Value} {below : List Frame} {meth : Method} {c : Code} {cc : ByteArray} {o nL : Nat} {ini : Bool} {D : va_G} {dA : Nat → ClassId} {A : Nat → Prop} {H0 : Heap} {Q : State → Prop}
variable {ins : Instr} {len pc bc bs : Nat} {L : g_L} {st : List Value} {w : g_W}
theorem g_sD (C : g_Cx p s m args meth c cc o nL ini D dA) (hA : ∀ q, H0.size ≤ q → A q) (hbc : bc ≤ R.cells) (hbs : bs ≤ R.slots) (hdg : decode cc pc = .ok (ins, len)) (h : g_doD o ini bc bs ins len pc L st w (g_G p l e R s m args below meth c nL D dA A H0 Q)) : g_G p l e R s m args below meth c nL D dA A H0 Q (pc, L, st, w) := by
  obtain ⟨hx, hb, hml, hown, hts, hK4, hin⟩ := C
  have hK := hK4.1
  intro ls H locs hl hP hD hS
  rcases h with ⟨i, kd, ci, k, v0, ps, q, a, n, f, rest, rfl, rfl, hkd, hlk, e2, hq, hk, kk⟩ | ⟨i, kd, ci, k, v0, ps, q, a, n, f, v, ty, rest, rfl, rfl, hkd, hlk, e2, hq, hk, hfin, hd, hn, hfit, kk⟩ | ⟨q, a, n, f, j, rest, rfl, rfl, e2, hq, hj, kk⟩ | ⟨q, a, n, f, j, rest, rfl, rfl, e2, hq, hj, kk⟩ | ⟨q, a, t, n, f, j, rest, rfl, rfl, e2, ht, hq, hj, kk⟩ | ⟨q, a, n, f, j, rest, rfl, rfl, e2, hq, hj, kk⟩ | ⟨q, a, n, f, j, x, rest, rfl, rfl, e2, hq, hj, kk⟩ | ⟨q, a, n, f, j, x, rest, rfl, rfl, e2, hq, hj, kk⟩ | ⟨q, a, n, f, j, x, rest, rfl, rfl, e2, hq, hj, kk⟩ | ⟨q, a, n, f, j, x, rest, rfl, rfl, e2, hq, hj, kk⟩ | ⟨q, a, n, f, j, v, qk, nk, fk, rest, rfl, rfl, e2, hq, hqk, hj, kk⟩ | ⟨q, a, t, n, f, rest, rfl, rfl, e2, ht, hq, kk⟩ | ⟨t, x, N, rest, rfl, rfl, ht, e2, hx0, hxN, hN, hc1, hs1, kk⟩ | ⟨i, ps, x, N, rest, b, v, rfl, rfl, hlk, e2, hx0, hxN, hN, hc1, hs1, kk⟩ | ⟨i, ci, N, v, ps, rfl, rfl, hlk, hc1, hs1, kk⟩
  · cases e2
    have hw := g_wds hts hK4 hlk
    have hn := (g_lk_in hlk).2
    have hq' := g_tw_at (dA := dA) hq
    rcases hkd with rfl | rfl
    · simp only [g_lkn, Bool.and_eq_true, decide_eq_true_eq] at hn
      have hc := g_cl_at hn.1
      have hf := g_ft_eq (k := k) hn.1
      refine va_get (D := D) (ci := ci) (ref := g_cn ci) hx hb hts (g_cl_in _ (List.mem_of_getElem? hc)) hown hK hP q hq' hc k hn.2 ?_ (fun _ h9 => ?_) (g_get_fs hk) hdg (kk ls H locs hl hP hD hS)
      · rw [hf.1, hf.2.2.1]; exact hw _ List.mem_cons_self
      · rw [hf.2.2.2] at h9; exact h9
    · simp only [g_lkn, Bool.and_eq_true, decide_eq_true_eq] at hn
      have hc := g_cl_at hn.1
      have hf := g_ft_eq (k := k) hn.1
      refine va_getN (D := D) (ci := ci) (ref := g_cn ci) (host := "GreenGears") hx hb hts (g_cl_in _ (List.mem_of_getElem? hc)) hown hK hP q hq' hc k hn.2 ?_ (fun _ h9 => ?_) (g_get_fs hk) hdg (kk ls H locs hl hP hD hS)
      · rw [hf.1, hf.2.2.1]; exact hw _ List.mem_cons_self
      · rw [hf.2.2.2] at h9; exact h9
  · cases e2
    have hw := g_wds hts hK4 hlk
    have hn0 := (g_lk_in hlk).2
    have hq' := g_tw_at (dA := dA) hq
    have hset : ∀ (w1 w2 : Nat), (w1, w2, w.2.2.set q (a, false, ci, n, g_up f k v)).2.2 = w.2.2.set q (a, false, ci, n, g_up f k v) := fun _ _ => rfl
    have htw : (g_tw dA w.2.2).set q (a, .inr (ci, ((List.range n).map f).set k v)) = g_tw dA (w.2.2.set q (a, false, ci, n, g_up f k v)) := by
      rw [g_tw_set, g_set_fs]; rfl
    have hlen : k < ((List.range n).map f).length := by rw [List.length_map, List.length_range]; exact hk
    have hkk : ∀ (H1 : Heap) (locs1 : List Loc), va_P D g_cl ((g_tw dA w.2.2).set q (a, .inr (ci, ((List.range n).map f).set k v))) H1 → va_D A ((g_tw dA w.2.2).set q (a, .inr (ci, ((List.range n).map f).set k v))) → va_S A H0 H1 locs1 → W p l e R s m args below meth c H1 locs1 w.1 w.2.1 Q (F0 m (pc + 3) ls rest) := by
      intro H1 locs1 g1 g2 g3
      rw [htw] at g1 g2
      exact kk ls H1 locs1 hl g1 g2 g3
    rcases hkd with rfl | rfl
    · simp only [g_lkn, Bool.and_eq_true, decide_eq_true_eq] at hn0
      have hc := g_cl_at hn0.1
      have hf := g_ft_eq (k := k) hn0.1
      have hlink : (Cond.fieldLink (g_cn o) i (g_cn ci) (g_TT (g_fl.getD ci ("", [])) k).2.1 (g_TT (g_fl.getD ci ("", [])) k).2.2.1).before args s = true := by
        rw [hf.1, hf.2.2.1]; exact hw _ List.mem_cons_self
      rcases hfin with hfin | ⟨-, hini, rfl⟩
      · exact va_put (D := D) (ci := ci) (ref := g_cn ci) (ty := ty) hx hb hts (g_cl_in _ (List.mem_of_getElem? hc)) (g_ft (g_cn ci, g_TT (g_fl.getD ci ("", [])), (g_fl.getD ci ("", [])).2.length)) (g_ft_at _ (List.mem_of_getElem? hc)) (g_nm_at _ (List.mem_of_getElem? hc)) hown hK hP hD hS q hq' hc k hn0.2 hlink (fun _ h9 => by rw [hf.2.2.2] at h9; exact h9) hfin hd hn hfit hlen hdg hkk
      · by_cases hff : (g_fd o k).2 = true
        · exact va_putF (D := D) (ci := o) (ref := g_cn o) (ty := ty) hx hb hts (g_cl_in _ (List.mem_of_getElem? hc)) (g_ft (g_cn o, g_TT (g_fl.getD o ("", [])), (g_fl.getD o ("", [])).2.length)) (g_ft_at _ (List.mem_of_getElem? hc)) (g_nm_at _ (List.mem_of_getElem? hc)) hown hK hP hD hS q hq' hc k hn0.2 hlink (fun _ h9 => by rw [hf.2.2.2] at h9; exact h9) hff (hin hini) hf.2.2.2 hd hn hfit hlen hdg hkk
        · exact va_put (D := D) (ci := o) (ref := g_cn o) (ty := ty) hx hb hts (g_cl_in _ (List.mem_of_getElem? hc)) (g_ft (g_cn o, g_TT (g_fl.getD o ("", [])), (g_fl.getD o ("", [])).2.length)) (g_ft_at _ (List.mem_of_getElem? hc)) (g_nm_at _ (List.mem_of_getElem? hc)) hown hK hP hD hS q hq' hc k hn0.2 hlink (fun _ h9 => by rw [hf.2.2.2] at h9; exact h9) (show (g_fd o k).2 = false from Bool.eq_false_iff.mpr hff) hd hn hfit hlen hdg hkk
    · simp only [g_lkn, Bool.and_eq_true, decide_eq_true_eq] at hn0
      have hc := g_cl_at hn0.1
      have hf := g_ft_eq (k := k) hn0.1
      have hlink : (Cond.fieldLinkNest (g_cn o) i (g_cn ci) (g_TT (g_fl.getD ci ("", [])) k).2.1 (g_TT (g_fl.getD ci ("", [])) k).2.2.1 "GreenGears").before args s = true := by
        rw [hf.1, hf.2.2.1]; exact hw _ List.mem_cons_self
      rcases hfin with hfin | ⟨h0, -, -⟩
      · exact va_putN (D := D) (ci := ci) (ref := g_cn ci) (ty := ty) hx hb hts (g_cl_in _ (List.mem_of_getElem? hc)) (g_ft (g_cn ci, g_TT (g_fl.getD ci ("", [])), (g_fl.getD ci ("", [])).2.length)) (g_ft_at _ (List.mem_of_getElem? hc)) (g_nm_at _ (List.mem_of_getElem? hc)) hown hK hP hD hS q hq' hc k hn0.2 hlink (fun _ h9 => by rw [hf.2.2.2] at h9; exact h9) hfin hd hn hfit hlen hdg hkk
      · cases h0
  · cases e2
    exact va_iald hx hb hK hP q 0 (g_tw_at (dA := dA) hq) rfl hj hdg (kk ls H locs hl hP hD hS)
  · cases e2
    exact va_lald hx hb hK hP q 1 (g_tw_at (dA := dA) hq) rfl hj hdg (kk ls H locs hl hP hD hS)
  · cases e2
    rcases ht with rfl | rfl
    · exact va_zald hx hb hK hP q 2 (g_tw_at (dA := dA) hq) rfl hj hdg (kk ls H locs hl hP hD hS)
    · exact va_bald hx hb hK hP q 3 (g_tw_at (dA := dA) hq) rfl hj hdg (kk ls H locs hl hP hD hS)
  · cases e2
    exact va_aldq hx hb hK hP q 4 (g_tw_at (dA := dA) hq) rfl hj hdg (kk ls H locs hl hP hD hS)
  · cases e2
    refine va_iast hx hb hK hP hD hS q 0 (g_tw_at (dA := dA) hq) rfl hj hdg (fun H1 locs1 g1 g2 g3 => kk ls H1 locs1 hl ?_ ?_ g3)
    · rw [g_upi] at g1; show va_P D g_cl (g_tw dA (w.2.2.set q _)) H1; rw [g_tw_set]; exact g1
    · rw [g_upi] at g2; show va_D A (g_tw dA (w.2.2.set q _)); rw [g_tw_set]; exact g2
  · cases e2
    refine va_last hx hb hK hP hD hS q 1 (g_tw_at (dA := dA) hq) rfl hj hdg (fun H1 locs1 g1 g2 g3 => kk ls H1 locs1 hl ?_ ?_ g3)
    · rw [g_upl] at g1; show va_P D g_cl (g_tw dA (w.2.2.set q _)) H1; rw [g_tw_set]; exact g1
    · rw [g_upl] at g2; show va_D A (g_tw dA (w.2.2.set q _)); rw [g_tw_set]; exact g2
  · cases e2
    refine va_zast hx hb hK hP hD hS q 2 (g_tw_at (dA := dA) hq) rfl hj hdg (fun H1 locs1 g1 g2 g3 => kk ls H1 locs1 hl ?_ ?_ g3)
    · rw [g_upi] at g1; show va_P D g_cl (g_tw dA (w.2.2.set q _)) H1; rw [g_tw_set]; exact g1
    · rw [g_upi] at g2; show va_D A (g_tw dA (w.2.2.set q _)); rw [g_tw_set]; exact g2
  · cases e2
    refine va_bast hx hb hK hP hD hS q 3 (g_tw_at (dA := dA) hq) rfl hj hdg (fun H1 locs1 g1 g2 g3 => kk ls H1 locs1 hl ?_ ?_ g3)
    · rw [g_upi] at g1; show va_P D g_cl (g_tw dA (w.2.2.set q _)) H1; rw [g_tw_set]; exact g1
    · rw [g_upi] at g2; show va_D A (g_tw dA (w.2.2.set q _)); rw [g_tw_set]; exact g2
  · cases e2
    refine va_astq (r := (g_cn 1, g_TT (g_fl.getD 1 ("", [])), (g_fl.getD 1 ("", [])).2.length)) hx hb hK hP hD hS q 4 qk 1 (g_tw_at (dA := dA) hq) rfl (g_tw_at (dA := dA) hqk) (g_cl_at (by decide)) hj hdg (fun H1 locs1 g1 g2 g3 => kk ls H1 locs1 hl ?_ ?_ g3)
    · rw [g_upr] at g1; show va_P D g_cl (g_tw dA (w.2.2.set q _)) H1; rw [g_tw_set]; exact g1
    · rw [g_upr] at g2; show va_D A (g_tw dA (w.2.2.set q _)); rw [g_tw_set]; exact g2
  · cases e2
    match t, ht, hq with
    | 0, _, hq => exact va_alen hx hb hK hP q 0 (g_tw_at (dA := dA) hq) rfl rfl hdg (kk ls H locs hl hP hD hS)
    | 1, _, hq => exact va_alen hx hb hK hP q 1 (g_tw_at (dA := dA) hq) rfl rfl hdg (kk ls H locs hl hP hD hS)
    | 2, _, hq => exact va_alen hx hb hK hP q 2 (g_tw_at (dA := dA) hq) rfl rfl hdg (kk ls H locs hl hP hD hS)
    | 3, _, hq => exact va_alen hx hb hK hP q 3 (g_tw_at (dA := dA) hq) rfl rfl hdg (kk ls H locs hl hP hD hS)
    | 4, _, hq => exact va_alen hx hb hK hP q 4 (g_tw_at (dA := dA) hq) rfl rfl hdg (kk ls H locs hl hP hD hS)
  · cases e2
    have key : ∀ (ty : FieldType) (a0 : vp_A) (u : Nat), newarray.typeOf (g_at t) = ty → (g_tys dA)[u]? = some (dA u, ty) → (ty = .int ∨ ty = .long ∨ ty = .boolean ∨ ty = .byte) → g_tr dA (true, t, N, fun _ => defaultValue (g_ty t)) = .inl (dA u, a0) → (∀ cA : ClassId, vp_cell cA a0 = arrV cA N (fun _ => defaultValue ty)) → N * componentBytes ty ≤ 536870912 → W p l e R s m args below meth c H locs w.1 w.2.1 Q (F0 m pc ls (Value.int x :: rest)) := by
      intro ty a0 u hty hu hor htr hce hby
      refine va_newa (atype := g_at t) (ty := ty) (a0 := a0) hx hb (by rw [hty]; exact hts _ (g_arr_in hor)) hty hK hP hD hS hA hce hx0 hxN hby (Nat.le_trans hc1 hbc) (Nat.le_trans hs1 hbs) hdg (fun q cA H1 gK g1 g2 g3 => ?_)
      have hca : cA = dA u := by
        have h1 := (hK.2 u _ hu).2
        have h2 := (gK.2 (g_tys dA).length (cA, ty) (by rw [List.getElem?_append_right (Nat.le_refl _), Nat.sub_self]; rfl)).2
        rcases hor with rfl | rfl | rfl | rfl <;> exact Option.some.inj (h2.symm.trans h1)
      subst hca
      rw [← htr] at g1 g2
      rw [← g_tw_app] at g1 g2
      exact kk q ls H1 locs hl g1 g2 g3
    match t, ht, key with
    | 0, _, key => exact key .int (N, .inl (fun _ => 0)) 0 rfl rfl (Or.inl rfl) rfl (fun _ => rfl) (by show N * 4 ≤ _; omega)
    | 1, _, key => exact key .long (N, .inr (.inl (fun _ => 0))) 1 rfl rfl (Or.inr (Or.inl rfl)) rfl (fun _ => rfl) (by show N * 8 ≤ _; omega)
    | 2, _, key => exact key .boolean (N, .inl (fun _ => 0)) 2 rfl rfl (Or.inr (Or.inr (Or.inl rfl))) rfl (fun _ => rfl) (by show N * 1 ≤ _; omega)
    | 3, _, key => exact key .byte (N, .inl (fun _ => 0)) 3 rfl rfl (Or.inr (Or.inr (Or.inr rfl))) rfl (fun _ => rfl) (by show N * 1 ≤ _; omega)
  · cases e2
    have hw := g_wds hts hK4 hlk
    refine va_newq (C := g_bu) hx hb hown (hw _ List.mem_cons_self) hK4.2.1 hK hP hD hS hA hx0 hxN (by omega) (Nat.le_trans hc1 hbc) (Nat.le_trans hs1 hbs) hdg (fun q cA H1 gK g1 g2 g3 => ?_)
    have hca : cA = dA 4 := by
      obtain ⟨kA, comp, -, -, -, h1⟩ := (hK.2 4 (dA 4, .object g_bu) rfl).2
      obtain ⟨kA2, comp2, -, -, -, h2⟩ := (gK.2 (g_tys dA).length (cA, .object g_bu) (by rw [List.getElem?_append_right (Nat.le_refl _), Nat.sub_self]; rfl)).2
      exact Option.some.inj (h2.symm.trans h1)
    subst hca
    exact kk q ls H1 locs hl (by show va_P D g_cl (g_tw dA (w.2.2 ++ _)) H1; rw [g_tw_app]; exact g1) (by show va_D A (g_tw dA (w.2.2 ++ _)); rw [g_tw_app]; exact g2) g3
  · have hw := g_wds hts hK4 hlk
    have hn0 := (g_lk_in hlk).2
    simp only [g_lkn, Bool.and_eq_true, decide_eq_true_eq, beq_iff_eq] at hn0
    obtain ⟨hn1, rfl⟩ := hn0
    have hc := g_cl_at hn1
    refine va_new (ci := ci) (fs := (List.range (g_fl.getD ci ("", [])).2.length).map (fun j => defaultValue ((parseFieldDescriptor (g_fd ci j).1).getD .int))) hx hb hts (g_cl_in _ (List.mem_of_getElem? hc)) (g_ft (g_cn ci, g_TT (g_fl.getD ci ("", [])), (g_fl.getD ci ("", [])).2.length)) (g_ft_at _ (List.mem_of_getElem? hc)) hown (hw _ List.mem_cons_self) (hw _ (List.mem_cons_of_mem _ List.mem_cons_self)) (hw _ (List.mem_cons_of_mem _ (List.mem_cons_of_mem _ List.mem_cons_self))) hK hP hD hS hA hc (fun j hj => ?_) (Nat.le_trans hc1 hbc) (Nat.le_trans hs1 hbs) hdg (fun q H1 g1 g2 g3 => ?_)
    · exact (g_getD_fs (f := fun j => defaultValue ((parseFieldDescriptor (g_fd ci j).1).getD .int)) hj).symm
    · exact kk q ls H1 locs hl (by show va_P D g_cl (g_tw dA (w.2.2 ++ _)) H1; rw [g_tw_app]; exact g1) (by show va_D A (g_tw dA (w.2.2 ++ _)); rw [g_tw_app]; exact g2) g3
end G7
end
section
-- the plain machine's methods are the Java machine's: calls, contracts
def g_Pc (D : va_G) (dA : Nat → ClassId) (as : List Value) (h : g_H) (sz : Nat) : Array Value → State → Prop := va_Pc as (fun U => U.heap.size = sz ∧ va_P D g_cl (g_tw dA h) U.heap ∧ g_K4 D dA U ∧ va_D (fun _ => True) (g_tw dA h))
def g_Qc (dA : Nat → ClassId) (D : va_G) (h : g_H) (sz : Nat) (post : Option Value → g_H → Prop) : Array Value → State → Outcome → State → Prop := fun _ st oc t => (∃ r h', oc = .returned r ∧ post r h' ∧ va_P D g_cl (g_tw dA h') t.heap ∧ va_D (va_A (g_tw dA h) sz) (g_tw dA h')) ∧ va_F (va_A (g_tw dA h) sz) st t
def g_room (d mc ms : Nat) : Room := { frames := d, cells := mc, slots := ms, locals := 200 * d }
def g_Ws (j : Nat) : List Cond := .code (g_y j) (g_by j) (g_nl j) (g_rt j) :: g_wsl
/-- a family of calls is sound: each is a contract -/
def g_Snd (l : Launch) (fr : Nat) (CALL : Nat → List Value → g_H → Nat → Nat → (Option Value → g_H → Prop) → Prop) : Prop :=
  ∀ j as h mc ms post, CALL j as h mc ms post → j < g_mt.length → ∀ D dA sz, Met l (g_y j) (g_Ws j) (g_room fr mc ms) (g_Pc D dA as h sz) (g_Qc dA D h sz post) mc ms (va_A (g_tw dA h) sz)
theorem g_blind {D : va_G} {dA : Nat → ClassId} {as : List Value} {h : g_H} {sz : Nat} : FrameBlind (g_Pc D dA as h sz) := by
  intro a U g mk q
  obtain ⟨q0, q1, qP, qK, qD⟩ := q
  exact ⟨q0, q1, qP, g_K4.same (u := U) (U := U.calling g mk a) rfl qK, qD⟩
theorem g_goodin {j : Nat} (h : j < g_mt.length) : GoodIn g_wsl (g_Ws j) := by
  intro w hw
  have hm : w ∈ g_wsl := by
    rcases List.mem_cons.mp hw with rfl | h1
    · exact (g_me_ok h).1
    · exact h1
  exact ⟨hm, good_of_word (g_wsl_good w hm)⟩
section G8
variable {p : Program} {l : Launch} {e : Env} {R : Room} {s : State} {m : MethodId} {args : Array Value} {below : List Frame} {meth : Method} {c : Code} {cc : ByteArray} {o nL : Nat} {ini : Bool} {D : va_G} {dA : Nat → ClassId} {A : Nat → Prop} {H0 : Heap} {Q : State → Prop}
variable {ins : Instr} {len pc bc bs : Nat} {L : g_L} {st : List Value} {w : g_W}
/-- behind a call -/
theorem g_after {a : Array Value} {h : g_H} {H : Heap} {locs : List Loc} {ls : Array Slot} {st0 rest : List Value} {mc ms cells slots : Nat} {post : Option Value → g_H → Prop} (hA : ∀ q, H0.size ≤ q → A q) (hl : lv_has ls nL L) (hD : va_D A (g_tw dA h)) (hS : va_S A H0 H locs)
    (hr : va_Run p l e R s m args below meth c H locs cells slots mc ms (F0 m pc ls st0) rest (g_Qc dA D h H.size post a) (va_A (g_tw dA h) H.size))
    (kk : ∀ r h', post r h' → g_G p l e R s m args below meth c nL D dA A H0 Q (pc + 3, L, r.toList ++ rest, cells + mc, slots + ms, h')) : W p l e R s m args below meth c H locs cells slots Q (F0 m pc ls st0) := by
  have hF : ∀ q, va_A (g_tw dA h) H.size q → A q := by
    intro q hq
    rcases hq with ⟨k, e, hk⟩ | hq
    · exact hD.2 k (q, e) hk
    · exact hA q (Nat.le_trans hS.1 hq)
  intro T hT X
  obtain ⟨v, st₀, t, T', L', h0, X', hL, e1, e2, ⟨⟨r, h', hv, hp', hP', hD'⟩, hz, hk⟩, stp⟩ := hr T hT X
  cases hv
  rw [h0] at hz hk
  obtain ⟨t2, a1, b1⟩ := kk v h' hp' ls T'.heap (locs ++ L') hl (by rw [e1]; exact hP') (hD'.weaken (fun _ _ _ hq => hF _ hq))
    ⟨Nat.le_trans hS.1 (by rw [e1]; exact hz), fun q h1 h2 => by rw [e1, hk q (Nat.lt_of_lt_of_le h1 hS.1) (fun z => h2 (hF q z))]; exact hS.2.1 q h1 h2, fun q hq => by
      rcases List.mem_append.mp hq with h | h
      · exact hS.2.2 q h
      · exact hF _ (hL q h)⟩ T' rfl X'
  exact ⟨t2, stp t2 a1, b1⟩
theorem g_sE {CALL : Nat → List Value → g_H → Nat → Nat → (Option Value → g_H → Prop) → Prop} {fr : Nat} (C : g_Cx p s m args meth c cc o nL ini D dA) (hA : ∀ q, H0.size ≤ q → A q) (hbc : bc ≤ R.cells) (hbs : bs ≤ R.slots) (hfr : fr + 1 ≤ R.frames) (hlo : 200 * fr + 200 ≤ R.locals) (hC : g_Snd l fr CALL)
    (hdg : decode cc pc = .ok (ins, len)) (h : g_doE CALL o bc bs ins len pc L st w (g_G p l e R s m args below meth c nL D dA A H0 Q)) : g_G p l e R s m args below meth c nL D dA A H0 Q (pc, L, st, w) := by
  obtain ⟨hx, hb, hml, hown, hts, hK4, hin⟩ := C
  have hK := hK4.1
  intro ls H locs hl hP hD hS
  have hDT : va_D (fun _ => True) (g_tw dA w.2.2) := hD.weaken (fun _ _ _ _ => trivial)
  have hPc : ∀ (as : List Value) (U : State), U.heap = H → s.WarmedH U.vm → g_Pc D dA as w.2.2 H.size as.toArray U := fun as U hU hW => ⟨rfl, by rw [hU], by rw [hU]; exact hP, g_K4.moved hW hK4, hDT⟩
  have hroom : ∀ (rest : List Value) (j : Nat) (ls' : Array Slot) (stt : List Value), g_sum rest ≤ 8 → 2 * (F0 m pc ls stt).monitorRoom + (rest.map fun v => v.category).sum ≤ 8 := fun rest j ls' stt hr => lv_room hr
  have hcb : ∀ (j mc ms n i : Nat), j < g_mt.length → n = (g_me j).2.2 → (Cond.initialized (g_y j).cls).before args s = true → (Cond.methodLink (g_cn o) i (g_y j)).before args s = true → CallB R s args (g_cn o) i (g_y j) (g_by j) (g_nl j) (g_rt j) (g_Ws j) (g_room fr mc ms) mc ms n := by
    intro j mc ms n i hj hn h1 h2
    obtain ⟨a1, a2, a3, a4, a5, a6⟩ := g_me_ok hj
    subst hn
    exact callB_of _ hts (g_goodin hj) rfl rfl rfl h1 h2 ⟨a4.1, a4.2, a5⟩ ⟨hfr, by show 8 + (g_nl j + 11) + 200 * fr ≤ R.locals; omega⟩
  have hcn : ∀ (j mc ms n i : Nat), j < g_mt.length → n = (g_me j).2.2 → (Cond.initialized (g_y j).cls).before args s = true → va_Nw (.methodLinkNest (g_cn o) i (g_y j) "GreenGears") s → va_CN R s args (g_cn o) i (g_y j) "GreenGears" (g_by j) (g_nl j) (g_rt j) (g_Ws j) (g_room fr mc ms) mc ms n := by
    intro j mc ms n i hj hn h1 h2
    obtain ⟨a1, a2, a3, a4, a5, a6⟩ := g_me_ok hj
    subst hn
    exact va_cnB _ hts (g_goodin hj) rfl rfl rfl h2 h1 ⟨a4.1, a4.2, a5⟩ ⟨hfr, by show 8 + (g_nl j + 11) + 200 * fr ≤ R.locals; omega⟩
  rcases h with ⟨i, kd, j, n, v, ps, As, b, rest, q, nf, f, mc, ms, rfl, rfl, hkd, hlk, e2, hn, hq, hr, hc1, hs1, hcall⟩ | ⟨i, kd, j, n, v, ps, As, rest, mc, ms, rfl, rfl, hkd, hlk, e2, hn, hr, hc1, hs1, hcall⟩ | ⟨i, kd, j, n, v, ps, As, b, rest, mc, ms, rfl, rfl, hkd, hlk, e2, hn, hr, hc1, hs1, hcall⟩ | ⟨i, a0, b0, v, ps, a, rest, rfl, rfl, hlk, e2, hr, k⟩
  · have hw := g_wds hts hK4 hlk
    have hn0 := (g_lk_in hlk).2
    have hq' := g_tw_at (dA := dA) hq
    rcases hkd with rfl | rfl
    · simp only [g_lkn, Bool.and_eq_true, decide_eq_true_eq, beq_iff_eq] at hn0
      obtain ⟨a1, a2, a3, a4, a5, a6⟩ := g_me_ok hn0.1
      have hcl : ∃ q : vw_C, g_cl[(g_me j).2.1]? = some q ∧ q.1 = (g_y j).cls := by
        obtain ⟨r, hr1, -⟩ := hP q _ hq'
        refine ⟨r, hr1, ?_⟩
        have hlt : (g_me j).2.1 < g_fl.length := by
          have := (List.getElem?_eq_some_iff.mp hr1).1
          rw [g_cl, List.length_map] at this; exact this
        rw [g_cl_at hlt] at hr1
        cases hr1
        exact a2.symm
      obtain ⟨rc, hrc1, hrc2⟩ := hcl
      obtain ⟨cell, hc2, hc3, hc4⟩ := va_recv hK hP hrc1 hq'
      rw [hrc2] at hc4
      exact g_after (D := D) (h := w.2.2) hA hl hD hS (va_runV ⟨hx, hb, hml, hown, hts⟩ (hC j _ _ mc ms _ hcall hn0.1 D dA H.size) ⟨hcb j mc ms n i hn0.1 hn0.2 (hw _ (List.mem_cons_of_mem _ List.mem_cons_self)) (hw _ List.mem_cons_self), hw _ (List.mem_cons_of_mem _ (List.mem_cons_of_mem _ List.mem_cons_self)), hw _ (List.mem_cons_of_mem _ (List.mem_cons_of_mem _ (List.mem_cons_of_mem _ List.mem_cons_self)))⟩ ⟨g_blind, ⟨cell, hc2, hc3, hc4⟩, hPc _⟩ rfl hn hl.1 e2 (hroom rest j ls st hr) hdg ⟨Nat.le_trans hc1 hbc, Nat.le_trans hs1 hbs⟩) (fun r h' hp => hp)
    · simp only [g_lkn, Bool.and_eq_true, decide_eq_true_eq, beq_iff_eq] at hn0
      obtain ⟨a1, a2, a3, a4, a5, a6⟩ := g_me_ok hn0.1
      have hcl : ∃ q : vw_C, g_cl[(g_me j).2.1]? = some q ∧ q.1 = (g_y j).cls := by
        obtain ⟨r, hr1, -⟩ := hP q _ hq'
        refine ⟨r, hr1, ?_⟩
        have hlt : (g_me j).2.1 < g_fl.length := by
          have := (List.getElem?_eq_some_iff.mp hr1).1
          rw [g_cl, List.length_map] at this; exact this
        rw [g_cl_at hlt] at hr1
        cases hr1
        exact a2.symm
      obtain ⟨rc, hrc1, hrc2⟩ := hcl
      obtain ⟨cell, hc2, hc3, hc4⟩ := va_recv hK hP hrc1 hq'
      rw [hrc2] at hc4
      exact g_after (D := D) (h := w.2.2) hA hl hD hS (va_runVN ⟨hx, hb, hml, hown, hts⟩ (hC j _ _ mc ms _ hcall hn0.1 D dA H.size) ⟨hcn j mc ms n i hn0.1 hn0.2 (hw _ (List.mem_cons_of_mem _ List.mem_cons_self)) (va_Nw.of rfl (hw _ List.mem_cons_self)), hw _ (List.mem_cons_of_mem _ (List.mem_cons_of_mem _ List.mem_cons_self)), hw _ (List.mem_cons_of_mem _ (List.mem_cons_of_mem _ (List.mem_cons_of_mem _ List.mem_cons_self)))⟩ ⟨g_blind, ⟨cell, hc2, hc3, hc4⟩, hPc _⟩ rfl hn hl.1 e2 (hroom rest j ls st hr) hdg ⟨Nat.le_trans hc1 hbc, Nat.le_trans hs1 hbs⟩) (fun r h' hp => hp)
  · have hw := g_wds hts hK4 hlk
    have hn0 := (g_lk_in hlk).2
    rcases hkd with rfl | rfl
    · simp only [g_lkn, Bool.and_eq_true, decide_eq_true_eq, beq_iff_eq] at hn0
      exact g_after (D := D) (h := w.2.2) hA hl hD hS (va_runS ⟨hx, hb, hml, hown, hts⟩ (hC j _ _ mc ms _ hcall hn0.1 D dA H.size) ⟨hcb j mc ms n i hn0.1 hn0.2 (hw _ (List.mem_cons_of_mem _ List.mem_cons_self)) (hw _ List.mem_cons_self), hw _ (List.mem_cons_of_mem _ (List.mem_cons_of_mem _ List.mem_cons_self))⟩ ⟨g_blind, hPc _⟩ rfl hn hl.1 e2 (hroom rest j ls st hr) hdg ⟨Nat.le_trans hc1 hbc, Nat.le_trans hs1 hbs⟩) (fun r h' hp => hp)
    · simp only [g_lkn, Bool.and_eq_true, decide_eq_true_eq, beq_iff_eq] at hn0
      exact g_after (D := D) (h := w.2.2) hA hl hD hS (va_runSN ⟨hx, hb, hml, hown, hts⟩ (hC j _ _ mc ms _ hcall hn0.1 D dA H.size) ⟨hcn j mc ms n i hn0.1 hn0.2 (hw _ (List.mem_cons_of_mem _ List.mem_cons_self)) (va_Nw.of rfl (hw _ List.mem_cons_self)), hw _ (List.mem_cons_of_mem _ (List.mem_cons_of_mem _ List.mem_cons_self)), trivial⟩ ⟨g_blind, hPc _⟩ rfl hn hl.1 e2 (hroom rest j ls st hr) hdg ⟨Nat.le_trans hc1 hbc, Nat.le_trans hs1 hbs⟩) (fun r h' hp => hp)
  · have hw := g_wds hts hK4 hlk
    have hn0 := (g_lk_in hlk).2
    rcases hkd with rfl | rfl
    · simp only [g_lkn, Bool.and_eq_true, decide_eq_true_eq, beq_iff_eq, Option.isNone_iff_eq_none] at hn0
      obtain ⟨⟨⟨b1, b2⟩, b3⟩, b4⟩ := hn0
      have hcb2 := hcb j mc ms n i b1 b2 (hw _ (List.mem_cons_of_mem _ List.mem_cons_self)) (hw _ List.mem_cons_self)
      rw [b4] at hcb2
      exact g_after (D := D) (h := w.2.2) hA hl hD hS (va_runI ⟨hx, hb, hml, hown, hts⟩ (hC j _ _ mc ms _ hcall b1 D dA H.size) ⟨hcb2, b3, hw _ (List.mem_cons_of_mem _ (List.mem_cons_of_mem _ List.mem_cons_self))⟩ ⟨g_blind, hPc _⟩ rfl hn hl.1 e2 (hroom rest j ls st hr) hdg ⟨Nat.le_trans hc1 hbc, Nat.le_trans hs1 hbs⟩) (fun r h' hp => hp)
    · simp only [g_lkn, Bool.and_eq_true, decide_eq_true_eq, beq_iff_eq, Option.isNone_iff_eq_none] at hn0
      obtain ⟨⟨⟨b1, b2⟩, b3⟩, b4⟩ := hn0
      have hcn2 := hcn j mc ms n i b1 b2 (hw _ (List.mem_cons_of_mem _ List.mem_cons_self)) (va_Nw.of rfl (hw _ List.mem_cons_self))
      rw [b4] at hcn2
      exact g_after (D := D) (h := w.2.2) hA hl hD hS (va_runIN ⟨hx, hb, hml, hown, hts⟩ (hC j _ _ mc ms _ hcall b1 D dA H.size) ⟨hcn2, b3, hw _ (List.mem_cons_of_mem _ (List.mem_cons_of_mem _ List.mem_cons_self))⟩ ⟨g_blind, hPc _⟩ rfl hn hl.1 e2 (hroom rest j ls st hr) hdg ⟨Nat.le_trans hc1 hbc, Nat.le_trans hs1 hbs⟩) (fun r h' hp => hp)
  · have hw := g_wds hts hK4 hlk
    cases e2
    have hr' : (rest.map fun v => v.category).sum ≤ 8 := hr
    exact W.objInit hx hb hown (hw _ List.mem_cons_self) (hw _ (List.mem_cons_of_mem _ List.mem_cons_self)) (hts _ g_obj_in) rfl (by rw [hml]; exact hl.1) rfl hdg (by omega) (Nat.le_trans (Nat.add_le_add_right (lv_room hr') 12) (by omega)) (k ls H locs hl hP hD hS)
theorem g_sP {CALL : Nat → List Value → g_H → Nat → Nat → (Option Value → g_H → Prop) → Prop} {fr : Nat} (C : g_Cx p s m args meth c cc o nL ini D dA) (hA : ∀ q, H0.size ≤ q → A q) (hbc : bc ≤ R.cells) (hbs : bs ≤ R.slots) (hfr : fr + 1 ≤ R.frames) (hlo : 200 * fr + 200 ≤ R.locals) (hC : g_Snd l fr CALL) (S : g_S)
    (h : g_pre CALL o nL ini bc bs cc (g_G p l e R s m args below meth c nL D dA A H0 Q) S) : g_G p l e R s m args below meth c nL D dA A H0 Q S := by
  obtain ⟨ins, len, hdg, h | h | h | h | h⟩ := h
  · exact g_sA C hdg h
  · exact g_sB C hdg h
  · exact g_sC C hdg h
  · exact g_sD C hA hbc hbs hdg h
  · exact g_sE C hA hbc hbs hfr hlo hC hdg h
end G8
section G8b
variable {p : Program} {l : Launch} {e : Env} {R : Room} {s : State} {m : MethodId} {args : Array Value} {below : List Frame} {meth : Method} {c : Code} {cc : ByteArray} {o nL : Nat} {ini : Bool} {D : va_G} {dA : Nat → ClassId} {A : Nat → Prop}
theorem g_ofW {y : MethodName} {ws ws' : List Cond} {rm : Room} {Pc : Array Value → State → Prop} {Qc : Array Value → State → Outcome → State → Prop} {mc ms : Nat} {free : Addr → Prop} {cc : ByteArray} {maxL : Nat} {ret : Option FieldType}
    (hy : plainFor y = true) (hw : ws = Cond.code y cc maxL ret :: ws')
    (body : ∀ p e s m args below meth c s₁, BodyLoose p l y (headSpec ws rm) cc maxL ret e s m args below meth c s₁ → c.maxLocals = maxL → Pc args s →
      W p l e (headSpec ws rm).room s m args below meth c s.heap [] 0 0 (MQ below Qc args s mc ms free) (entryFrame m args maxL)) : Met l y ws rm Pc Qc mc ms free := by
  refine MetFree.of_bodySF (code := cc) (maxLocals := maxL) (ret := ret) hy ?_ ?_
  · intro args s m h hn
    obtain ⟨meth, c, h1, h2, h3, h4, h5, h6, -, -⟩ := Cond.code_spec hn (atoms_spec (ws := ws) h _ (by rw [hw]; exact List.mem_cons_self))
    exact ⟨meth, c, h1, h2, h3, h4, h5, h6⟩
  · intro p e s m args below meth c s₁ B hml hP _
    have hh0 : s₁.heap = s.heap := by rw [B.state]; rfl
    obtain ⟨t, a1, o, b1, b2, b3⟩ := body p e s m args below meth c s₁ B hml hP s₁ hh0 (Stand.of_body B)
    exact ⟨t, o, a1, b1, b2, ⟨b3.1, b3.2⟩⟩
theorem g_endW {h : g_H} {rt : Option FieldType} {mc ms : Nat} {post : Option Value → g_H → Prop} (hx : p.tables.exec = Jvm.exec) (hb : c.code = cc) (hr : meth.sig.returnType = rt) (hlocks : meth.locks = false) (S : g_S) (h1 : g_end cc rt mc ms post S) :
    g_G p l e R s m args below meth c nL D dA (va_A (g_tw dA h) s.heap.size) s.heap (MQ below (g_Qc dA D h s.heap.size post) args s mc ms (va_A (g_tw dA h) s.heap.size)) S := by
  intro ls H locs hl hP hD hS
  obtain ⟨hc, hs, h1⟩ := h1
  refine W.widen hc hs ?_
  rcases h1 with ⟨v, ty, hdg, e1, hn, e2, hp⟩ | ⟨v, hdg, e1, e2, hp⟩ | ⟨v, n, hdg, e1, hv, e2, hp⟩ | ⟨hdg, e1, e2, hp⟩
  · rw [e2]
    exact W.zret hx hb (hr.trans e1) hn (fun t ht hW => ⟨⟨_, _, rfl, hp, by rw [ht]; exact hP, hD⟩, hS.F ht⟩) hS.2.2 hdg
  · rw [e2]
    exact W.lret hx hb (hr.trans e1) (fun t ht hW => ⟨⟨_, _, rfl, hp, by rw [ht]; exact hP, hD⟩, hS.F ht⟩) hS.2.2 hdg
  · rw [e2]
    exact W.aret hx hb (hr.trans e1) (Or.inl ⟨n, rfl⟩) hv (fun t ht hW => ⟨⟨_, _, rfl, hp, by rw [ht]; exact hP, hD⟩, hS.F ht⟩) hS.2.2 hdg
  · rw [e2]
    exact W.vret hx hb (hr.trans e1) (fun t ht hW => ⟨⟨_, _, rfl, hp, by rw [ht]; exact hP, hD⟩, hS.F ht⟩) hS.2.2 hdg
end G8b
/-- THE PLAIN MACHINE IS SOUND: what it answers, the Java machine answers -/
theorem g_sound (l : Launch) : ∀ d, g_Snd l d (g_run d)
  | 0 => fun j as h mc ms post hr => hr.elim
  | d + 1 => by
    intro j as h mc ms post hr hj D dA sz
    obtain ⟨-, hlen, hWP⟩ := hr
    obtain ⟨a1, a2, a3, a4, a5, a6⟩ := g_me_ok hj
    refine g_ofW (cc := g_by j) (maxL := g_nl j) (ret := g_rt j) a3 rfl ?_
    intro p e s m args below meth c s₁ B hml hv
    obtain ⟨rfl, hsz, hP, hK, hD0⟩ := hv
    have hts0 := atoms_spec (ws := g_Ws j) B.pre
    have hts : ∀ w ∈ g_wsl, w.before as.toArray s = true := fun w hw => hts0 w (List.mem_cons_of_mem _ hw)
    have hown : s.vm.findClass (g_cn (g_me j).2.1) = some m.cls := by rw [← a2]; exact findClass_of_methodNamed B.named
    have hnm := (name_of_methodNamed B.named B.method).1
    subst hsz
    have hl := lv_entry as (n := g_nl j) hlen
    rw [lg_entry_eq]
    have hC : g_Cx p s m as.toArray meth c (g_by j) (g_me j).2.1 (g_nl j) ((g_y j).name == "<init>") D dA := ⟨B.exec, B.bytes, hml, hown, hts, hK, fun h9 => by rw [hnm]; exact beq_iff_eq.mp h9⟩
    exact hWP (g_G p l e (g_room (d + 1) mc ms) s m as.toArray below meth c (g_nl j) D dA (va_A (g_tw dA h) s.heap.size) s.heap (MQ below (g_Qc dA D h s.heap.size post) as.toArray s mc ms (va_A (g_tw dA h) s.heap.size)))
      (fun S hS => g_endW B.exec B.bytes B.returns B.notSynchronized S hS)
      (fun S hS => g_sP hC (fun q hq => Or.inr hq) (Nat.le_refl _) (Nat.le_refl _) (Nat.le_refl _) (by show 200 * d + 200 ≤ 200 * (d + 1); omega) (g_sound l d) S hS)
      _ s.heap [] hl hP hD0.self va_S.rf
end
section
-- a machine over values of which only bounds are known: numbers are told by variables with bounds, addresses by places
-- a value: 0 int, 1 long, 2 int variable, 3 long variable, 4 null, 5 a cell's place, else the script
abbrev s_V : Type := Nat × Int
abbrev s_E : Type := List (Int × Int)
abbrev s_R : Type := List (Nat × Nat × Int)
abbrev s_B : Type := List (Nat × Nat × Nat)
abbrev s_C : Type := Bool × Nat × Nat × s_V × List (Nat × s_V)
abbrev s_M : Type := s_E × s_R × s_B × List s_C
-- an instruction: pc, length, what it does, kind of pool entry, three numbers, itself
abbrev s_I : Type := Nat × Nat × Nat × Nat × Nat × Nat × Int × Instr
abbrev s_L : Type := List (Nat × s_V)
abbrev s_X : Type := List s_I × s_L × List s_V × Nat × Nat × s_M
abbrev s_O : Type := (Nat × Nat × Int) ⊕ s_X
-- what they stand for
def s_cv (σ : Nat → Int) (ρ : Nat → Nat) (b : Nat) : s_V → Value
  | (0, n) => .int (Int32.ofInt n)
  | (1, n) => .long (Int64.ofInt n)
  | (2, n) => .int (Int32.ofInt (σ n.toNat))
  | (3, n) => .long (Int64.ofInt (σ n.toNat))
  | (4, _) => .null
  | (5, n) => .ref (ρ n.toNat)
  | (_, _) => .ref b
def s_lk : List (Nat × s_V) → Nat → s_V → s_V
  | [], _, d => d
  | (i, v) :: t, j, d => bif Nat.beq i j then v else s_lk t j d
def s_put : List (Nat × s_V) → Nat → s_V → List (Nat × s_V)
  | [], j, v => [(j, v)]
  | (i, u) :: t, j, v => bif Nat.beq i j then (j, v) :: t else (i, u) :: s_put t j v
def s_cc (σ : Nat → Int) (ρ : Nat → Nat) (b : Nat) (c : s_C) : g_HC := (c.1, c.2.1, c.2.2.1, fun j => s_cv σ ρ b (s_lk c.2.2.2.2 j c.2.2.2.1))
def s_ch (σ : Nat → Int) (ρ : Nat → Nat) (b : Nat) : Nat → List s_C → g_H
  | _, [] => []
  | i, c :: t => (ρ i, s_cc σ ρ b c) :: s_ch σ ρ b (i + 1) t
def s_cL (σ : Nat → Int) (ρ : Nat → Nat) (b : Nat) (L : s_L) : g_L := L.map (fun q => (q.1, s_cv σ ρ b q.2))
def s_pc : List s_I → Nat
  | [] => 0
  | r :: _ => r.1
def s_cX (σ : Nat → Int) (ρ : Nat → Nat) (b : Nat) (X : s_X) : g_S := (s_pc X.1, s_cL σ ρ b X.2.1, X.2.2.1.map (s_cv σ ρ b), X.2.2.2.1, X.2.2.2.2.1, s_ch σ ρ b 0 X.2.2.2.2.2.2.2.2)
/-- what holds of the variables -/
def s_ok (xs : Nat → Int) (σ : Nat → Int) (M : s_M) : Prop :=
  (∀ i r, M.1[i]? = some r → r.1 ≤ σ i ∧ σ i ≤ r.2) ∧ (∀ q ∈ M.2.1, σ q.1 + q.2.2 ≤ σ q.2.1) ∧ (∀ q ∈ M.2.2.1, σ q.2.2 = σ q.1 - σ q.2.1) ∧ ∀ i, i < 5 → σ i = xs i
-- forcing (the kernel is lazy)
def s_fn {α : Type} (n : Nat) (k : Nat → α) : α := match n with
  | 0 => k 0
  | m + 1 => k (m + 1)
theorem s_fn_eq {α : Type} (n : Nat) (k : Nat → α) : s_fn n k = k n := by cases n <;> rfl
def s_fi {α : Type} (n : Int) (k : Int → α) : α := match n with
  | .ofNat m => s_fn m (fun m => k (.ofNat m))
  | .negSucc m => s_fn m (fun m => k (.negSucc m))
theorem s_fi_eq {α : Type} (n : Int) (k : Int → α) : s_fi n k = k n := by cases n <;> simp [s_fi, s_fn_eq]
def s_hset {α : Type} : List s_C → Nat → s_C → (List s_C → α) → α
  | [], _, _, k => k []
  | _ :: t, 0, c, k => k (c :: t)
  | u :: t, n + 1, c, k => s_hset t n c (fun t' => k (u :: t'))
theorem s_hset_eq {α : Type} : ∀ (l : List s_C) (n : Nat) (c : s_C) (k : List s_C → α), s_hset l n c k = k (l.set n c)
  | [], _, _, _ => rfl
  | _ :: _, 0, _, _ => rfl
  | u :: t, n + 1, c, k => by simp only [s_hset, s_hset_eq t n c, List.set_cons_succ]
def s_putK {α : Type} : List (Nat × s_V) → Nat → s_V → (List (Nat × s_V) → α) → α
  | [], j, v, k => k [(j, v)]
  | (i, u) :: t, j, v, k => bif Nat.beq i j then k ((j, v) :: t) else s_putK t j v (fun t' => k ((i, u) :: t'))
theorem s_putK_eq {α : Type} : ∀ (l : List (Nat × s_V)) (j : Nat) (v : s_V) (k : List (Nat × s_V) → α), s_putK l j v k = k (s_put l j v)
  | [], _, _, _ => rfl
  | (i, u) :: t, j, v, k => by
    simp only [s_putK, s_put]
    cases Nat.beq i j
    · simp only [cond_false, s_putK_eq t j v]
    · simp only [cond_true]
def s_app {α : Type} : List s_C → s_C → (List s_C → α) → α
  | [], c, k => k [c]
  | u :: t, c, k => s_app t c (fun t' => k (u :: t'))
theorem s_app_eq {α : Type} : ∀ (l : List s_C) (c : s_C) (k : List s_C → α), s_app l c k = k (l ++ [c])
  | [], _, _ => rfl
  | u :: t, c, k => by simp only [s_app, s_app_eq t c, List.cons_append]
theorem s_beq (a b : Nat) : Nat.beq a b = (a == b) := by
  rw [Bool.eq_iff_iff, beq_iff_eq, Nat.beq_eq]
def s_c2 (v : s_V) : Bool := Nat.beq v.1 1 || Nat.beq v.1 3
def s_fil1 {α : Type} (i : Nat) : s_L → (s_L → α) → α
  | [], k => k []
  | (j, u) :: t, k => bif (Nat.beq j i || (Nat.beq (j + 1) i && s_c2 u)) then s_fil1 i t k else s_fil1 i t (fun t' => k ((j, u) :: t'))
def s_fil2 {α : Type} (i : Nat) : s_L → (s_L → α) → α
  | [], k => k []
  | (j, u) :: t, k => bif (Nat.beq j i || (Nat.beq j (i + 1) || (Nat.beq (j + 1) i && s_c2 u))) then s_fil2 i t k else s_fil2 i t (fun t' => k ((j, u) :: t'))
theorem s_fil1_eq {α : Type} (i : Nat) : ∀ (l : s_L) (k : s_L → α), s_fil1 i l k = k (l.filter (fun q => !(q.1 == i) && !(q.1 + 1 == i && s_c2 q.2)))
  | [], _ => rfl
  | (j, u) :: t, k => by
    have e1 : Nat.beq j i = (j == i) := s_beq _ _
    have e2 : Nat.beq (j + 1) i = (j + 1 == i) := s_beq _ _
    simp only [s_fil1, List.filter_cons, e1, e2]
    cases (j == i) <;> cases (j + 1 == i) <;> cases (s_c2 u) <;> simp [s_fil1_eq i t]
theorem s_fil2_eq {α : Type} (i : Nat) : ∀ (l : s_L) (k : s_L → α), s_fil2 i l k = k (l.filter (fun q => !(q.1 == i) && (!(q.1 == i + 1) && !(q.1 + 1 == i && s_c2 q.2))))
  | [], _ => rfl
  | (j, u) :: t, k => by
    have e1 : Nat.beq j i = (j == i) := s_beq _ _
    have e2 : Nat.beq (j + 1) i = (j + 1 == i) := s_beq _ _
    have e3 : Nat.beq j (i + 1) = (j == i + 1) := s_beq _ _
    simp only [s_fil2, List.filter_cons, e1, e2, e3]
    cases (j == i) <;> cases (j + 1 == i) <;> cases (j == i + 1) <;> cases (s_c2 u) <;> simp [s_fil2_eq i t]
-- what is well told: variables and places that are there
def s_wV (nE nH : Nat) (v : s_V) : Bool := match v.1 with
  | 2 => Nat.blt v.2.toNat nE
  | 3 => Nat.blt v.2.toNat nE
  | 5 => Nat.blt v.2.toNat nH
  | _ => true
def s_wL (nE nH : Nat) (L : s_L) : Bool := L.all (fun q => s_wV nE nH q.2)
def s_wM (nE nH : Nat) (M : s_M) : Bool := M.2.1.all (fun q => Nat.blt q.1 nE && Nat.blt q.2.1 nE) && M.2.2.1.all (fun q => Nat.blt q.1 nE && (Nat.blt q.2.1 nE && Nat.blt q.2.2 nE)) && M.2.2.2.all (fun c => s_wV nE nH c.2.2.2.1 && s_wL nE nH c.2.2.2.2)
-- bounds
def s_in32 (n : Int) : Bool := decide (-2147483648 ≤ n) && decide (n ≤ 2147483647)
def s_in64 (n : Int) : Bool := decide (-9223372036854775808 ≤ n) && decide (n ≤ 9223372036854775807)
def s_iv (E : s_E) (v : s_V) : Option (Int × Int) := match v.1 with
  | 0 => bif s_in32 v.2 then some (v.2, v.2) else none
  | 2 => match E[v.2.toNat]? with
    | some r => bif (s_in32 r.1 && s_in32 r.2) then some r else none
    | none => none
  | _ => none
def s_ivl (E : s_E) (v : s_V) : Option (Int × Int) := match v.1 with
  | 1 => bif s_in64 v.2 then some (v.2, v.2) else none
  | 3 => match E[v.2.toNat]? with
    | some r => bif (s_in64 r.1 && s_in64 r.2) then some r else none
    | none => none
  | _ => none
def s_isv (v : s_V) : Bool := Nat.beq v.1 2 || Nat.beq v.1 3
/-- a < b: 1 yes, 0 no, else open -/
def s_lt (R : s_R) (ia ib : Int × Int) (a b : s_V) : Nat :=
  bif decide (ia.2 < ib.1) then 1 else bif decide (ib.2 ≤ ia.1) then 0 else
  bif s_isv a && s_isv b then
    bif R.any (fun q => Nat.beq q.1 a.2.toNat && (Nat.beq q.2.1 b.2.toNat && decide (1 ≤ q.2.2))) then 1 else
    bif R.any (fun q => Nat.beq q.1 b.2.toNat && (Nat.beq q.2.1 a.2.toNat && decide (0 ≤ q.2.2))) then 0 else 2
  else 2
/-- which cut decides it -/
def s_ltc (ia ib : Int × Int) (a b : s_V) : Option (Nat × Nat × Int) :=
  bif decide (ib.1 = ib.2) && s_isv a then some (0, a.2.toNat, ib.1) else
  bif decide (ia.1 = ia.2) && s_isv b then some (0, b.2.toNat, ia.1 + 1) else
  bif s_isv a && s_isv b then some (1, a.2.toNat, b.2.toNat) else none
def s_eq (ia ib : Int × Int) (a b : s_V) : Nat :=
  bif decide (ia.2 < ib.1) || decide (ib.2 < ia.1) then 0 else
  bif decide (ia.1 = ia.2) && decide (ib.1 = ib.2) then bif decide (ia.1 = ib.1) then 1 else 0 else
  bif s_isv a && s_isv b && Nat.beq a.2.toNat b.2.toNat then 1 else 2
def s_eqc (ia ib : Int × Int) (a b : s_V) : Option (Nat × Nat × Int) :=
  bif decide (ib.1 = ib.2) && s_isv a then (bif decide (ia.1 < ib.1) then some (0, a.2.toNat, ib.1) else some (0, a.2.toNat, ib.1 + 1)) else
  bif decide (ia.1 = ia.2) && s_isv b then (bif decide (ib.1 < ia.1) then some (0, b.2.toNat, ia.1) else some (0, b.2.toNat, ia.1 + 1)) else none
/-- a condition (0 =, 1 ≠, 2 <, 3 ≥, 4 >, 5 ≤): decided (0 no, 1 yes), or open -/
def s_not (k : Nat) : Nat := match k with
  | 0 => 1
  | 1 => 0
  | _ => 2
def s_cond (R : s_R) (ia ib : Int × Int) (a b : s_V) (cd : Nat) : Nat :=
  bif Nat.blt cd 2 then (bif Nat.beq cd 0 then s_eq ia ib a b else s_not (s_eq ia ib a b)) else
  bif Nat.blt cd 4 then (bif Nat.beq cd 2 then s_lt R ia ib a b else s_not (s_lt R ia ib a b)) else
  (bif Nat.beq cd 4 then s_lt R ib ia b a else s_not (s_lt R ib ia b a))
def s_condc (ia ib : Int × Int) (a b : s_V) (cd : Nat) : Option (Nat × Nat × Int) :=
  bif Nat.blt cd 2 then s_eqc ia ib a b else bif Nat.blt cd 4 then s_ltc ia ib a b else s_ltc ib ia b a
def s_cdn : ClassFile.Cond → Nat
  | .eq => 0
  | .ne => 1
  | .lt => 2
  | .ge => 3
  | .gt => 4
  | .le => 5
def s_jump : List s_I → Nat → Option (List s_I)
  | [], _ => none
  | r :: t, pc => bif Nat.beq r.1 pc then some (r :: t) else s_jump t pc
/-- the next instruction -/
def s_go (r : s_I) (t : List s_I) : Bool := match t with
  | [] => false
  | r' :: _ => Nat.beq r'.1 (r.1 + r.2.1)
def s_pool : Instr → Option Nat
  | .getfield i => some i
  | .putfield i => some i
  | .invokevirtual i => some i
  | .invokespecial i => some i
  | .invokestatic i => some i
  | .new i => some i
  | .anewarray i => some i
  | .ldc i => some i
  | .ldc_w i => some i
  | .ldc2_w i => some i
  | _ => none
end
section
-- one step of the machine over bounds, calls and ends apart
def s_fv {α : Type} (v : s_V) (k : s_V → α) : α := s_fi v.2 (fun n => k (v.1, n))
theorem s_fv_eq {α : Type} (v : s_V) (k : s_V → α) : s_fv v k = k v := by simp [s_fv, s_fi_eq]
def s_tk (kd : Nat) (v : s_V) : Bool := match kd with
  | 0 => Nat.beq v.1 0 || Nat.beq v.1 2
  | 1 => Nat.beq v.1 1 || Nat.beq v.1 3
  | 2 => Nat.ble 4 v.1
  | 3 => Nat.ble 5 v.1
  | _ => Nat.beq v.1 4 || Nat.beq v.1 5
def s_conI : Instr → Option s_V
  | .iconst n => some (0, n)
  | .bipush n => some (0, (Int8.ofInt n).toInt32.toInt)
  | .sipush n => some (0, (Int16.ofInt n).toInt32.toInt)
  | .lconst n => some (1, ((n : Nat) : Int))
  | .aconst_null => some (4, 0)
  | _ => none
def s_ldI : Instr → Option (Nat × Nat)
  | .iload i => some (i, 0)
  | .iload_n k => some (k, 0)
  | .lload i => some (i, 1)
  | .lload_n k => some (k, 1)
  | .aload i => some (i, 2)
  | .aload_n k => some (k, 2)
  | _ => none
def s_stI : Instr → Option (Nat × Bool × Nat)
  | .istore i => some (i, false, 0)
  | .istore_n k => some (k, false, 0)
  | .lstore i => some (i, true, 1)
  | .lstore_n k => some (k, true, 1)
  | .astore i => some (i, false, 2)
  | .astore_n k => some (k, false, 2)
  | _ => none
def s_ibn : Instr → Option Nat
  | .iadd => some 0
  | .isub => some 1
  | .imul => some 2
  | .iand => some 3
  | .ior => some 4
  | .ixor => some 5
  | .ishl => some 6
  | .ishr => some 7
  | .iushr => some 8
  | _ => none
def s_fib : Nat → Int32 → Int32 → Int32
  | 0 => fun x y => x + y
  | 1 => fun x y => x - y
  | 2 => fun x y => x * y
  | 3 => fun x y => x &&& y
  | 4 => fun x y => x ||| y
  | 5 => fun x y => x ^^^ y
  | 6 => fun x y => x <<< (y &&& 31)
  | 7 => fun x y => x >>> (y &&& 31)
  | _ => fun x y => (x.toUInt32 >>> (y.toUInt32 &&& Int32.toUInt32 31)).toInt32
def s_idn : Instr → Option Nat
  | .idiv => some 0
  | .irem => some 1
  | _ => none
def s_fid : Nat → Int32 → Int32 → Int32
  | 0 => fun x y => x / y
  | _ => fun x y => x - x / y * y
def s_iun : Instr → Option Nat
  | .ineg => some 0
  | .i2b => some 1
  | .i2s => some 2
  | _ => none
def s_fiu : Nat → Int32 → Int32
  | 0 => fun x => -x
  | 1 => fun x => x.toInt8.toInt32
  | _ => fun x => x.toInt16.toInt32
def s_lbn : Instr → Option Nat
  | .ladd => some 0
  | .lsub => some 1
  | .lmul => some 2
  | _ => none
def s_flb : Nat → Int64 → Int64 → Int64
  | 0 => fun x y => x + y
  | 1 => fun x y => x - y
  | _ => fun x y => x * y
def s_ldn : Instr → Option Nat
  | .ldiv => some 0
  | .lrem => some 1
  | _ => none
def s_fld : Nat → Int64 → Int64 → Int64
  | 0 => fun x y => x / y
  | _ => fun x y => x - x / y * y
def s_nar : ArrayType → Nat
  | .int => 0
  | .long => 1
  | .boolean => 2
  | .byte => 3
  | _ => 9
def s_aln : Instr → Nat
  | .iaload => 0
  | .laload => 1
  | .baload => 2
  | .aaload => 3
  | _ => 9
def s_asn : Instr → Nat
  | .iastore => 0
  | .lastore => 1
  | .bastore => 2
  | .aastore => 3
  | _ => 9
def s_tgt (pc : Nat) (off : Int) : Option Nat := match (pc : Int) + off with
  | .ofNat n => some n
  | .negSucc _ => none
/-- what an instruction does, told by numbers, is what it is -/
def s_okQ (pc q a b : Nat) (v : Int) (ins : Instr) : Bool := match q with
  | 0 => decide (s_conI ins = some (a, v))
  | 1 => decide (s_ldI ins = some (a, b))
  | 2 => decide (s_stI ins = some (a, false, b))
  | 3 => decide (s_stI ins = some (a, true, b))
  | 4 => decide (ins = .iinc a v)
  | 5 => decide (ins = .dup)
  | 6 => decide (ins = .pop)
  | 7 => decide (ins = .dup_x1)
  | 8 => decide (ins = .dup2)
  | 9 => match ins with | .ldc _ => true | .ldc_w _ => true | _ => false
  | 10 => match ins with | .ldc2_w _ => true | _ => false
  | 11 => decide (s_ibn ins = some a)
  | 12 => decide (s_idn ins = some a)
  | 13 => decide (s_iun ins = some a)
  | 14 => decide (s_lbn ins = some a)
  | 15 => decide (s_ldn ins = some a)
  | 16 => decide (ins = .lneg)
  | 17 => decide (ins = .i2l)
  | 18 => decide (ins = .l2i)
  | 19 => decide (ins = .lcmp)
  | 20 => match ins with | .goto off => decide ((pc : Int) + off = (a : Int)) | _ => false
  | 21 => match ins with | .ifCond cd off => decide ((pc : Int) + off = (a : Int)) && Nat.beq (s_cdn cd) b | _ => false
  | 22 => match ins with | .if_icmp cd off => decide ((pc : Int) + off = (a : Int)) && Nat.beq (s_cdn cd) b | _ => false
  | 23 => match ins with | .ifnull off => decide ((pc : Int) + off = (a : Int)) | _ => false
  | 24 => match ins with | .ifnonnull off => decide ((pc : Int) + off = (a : Int)) | _ => false
  | 25 => match ins with | .tableswitch _ _ _ _ => true | _ => false
  | 26 => match ins with | .getfield _ => true | _ => false
  | 27 => match ins with | .putfield _ => true | _ => false
  | 28 => decide (ins = .arraylength)
  | 29 => match ins with | .newarray t => Nat.beq (s_nar t) a && Nat.blt a 4 | _ => false
  | 30 => match ins with | .anewarray _ => true | _ => false
  | 31 => match ins with | .new _ => true | _ => false
  | 32 => Nat.beq (s_aln ins) a && Nat.blt a 4
  | 33 => Nat.beq (s_asn ins) a && Nat.blt a 4
  | 34 => match ins with | .invokevirtual _ => true | _ => false
  | 35 => match ins with | .invokestatic _ => true | _ => false
  | 36 => match ins with | .invokespecial _ => true | _ => false
  | 37 => match ins with | .invokespecial _ => true | _ => false
  | 40 => decide (ins = .ireturn)
  | 41 => decide (ins = .lreturn)
  | 42 => decide (ins = .areturn)
  | 43 => decide (ins = .return_)
  | _ => true
def s_len : Instr → Nat
  | .bipush _ => 2
  | .iload _ => 2
  | .lload _ => 2
  | .aload _ => 2
  | .istore _ => 2
  | .lstore _ => 2
  | .astore _ => 2
  | .ldc _ => 2
  | .newarray _ => 2
  | .sipush _ => 3
  | .iinc _ _ => 3
  | .ldc_w _ => 3
  | .ldc2_w _ => 3
  | .goto _ => 3
  | .ifCond _ _ => 3
  | .if_icmp _ _ => 3
  | .ifnull _ => 3
  | .ifnonnull _ => 3
  | .getfield _ => 3
  | .putfield _ => 3
  | .new _ => 3
  | .anewarray _ => 3
  | .invokevirtual _ => 3
  | .invokespecial _ => 3
  | .invokestatic _ => 3
  | _ => 1
def s_okI (cc : ByteArray) (o : Nat) (r : s_I) : Bool := (match decode cc r.1 with
  | .ok (i, n) => decide (i = r.2.2.2.2.2.2.2) && (Nat.beq n r.2.1 && (Nat.beq (s_len i) n || (Nat.beq r.2.2.1 25 || Nat.ble 44 r.2.2.1)))
  | .error _ => false) && (s_okQ r.1 r.2.2.1 r.2.2.2.2.1 r.2.2.2.2.2.1 r.2.2.2.2.2.2.1 r.2.2.2.2.2.2.2 && (match s_pool r.2.2.2.2.2.2.2 with
  | none => true
  | some i => Nat.ble 40 r.2.2.1 || g_lk.any (fun q => Nat.beq q.1 o && (Nat.beq q.2.1 i && (Nat.beq q.2.2.1 r.2.2.2.1 && (Nat.beq q.2.2.2.1 r.2.2.2.2.1 && (Nat.beq q.2.2.2.2.1 r.2.2.2.2.2.1 && decide (q.2.2.2.2.2.1 = r.2.2.2.2.2.2.1))))))))
def s_find : s_L → Nat → Option s_V
  | [], _ => none
  | (j, v) :: t, i => bif Nat.beq j i then some v else s_find t i
/-- a known int, a known long -/
def s_kE (E : s_E) (k : Nat) : Option Int := match E[k]? with
  | some r => bif decide (r.1 = r.2) then some r.1 else none
  | none => none
def s_k (E : s_E) (v : s_V) : Option Int := bif Nat.beq v.1 0 then some v.2 else bif Nat.beq v.1 2 then s_kE E v.2.toNat else none
def s_kl (E : s_E) (v : s_V) : Option Int := bif Nat.beq v.1 1 then some v.2 else bif Nat.beq v.1 3 then s_kE E v.2.toNat else none
def s_push (t : List s_I) (L : s_L) (st : List s_V) (cn sn : Nat) (M : s_M) (v : s_V) : Option s_O := s_fv v (fun v => some (.inr (t, L, v :: st, cn, sn, M)))
def s_wf (L : s_L) (st : List s_V) (M : s_M) : Bool := s_wL M.1.length M.2.2.2.length L && (st.all (s_wV M.1.length M.2.2.2.length) && s_wM M.1.length M.2.2.2.length M)
/-- a number of which only bounds are known -/
def s_fresh (t : List s_I) (L : s_L) (st : List s_V) (cn sn : Nat) (M : s_M) (lo hi : Int) (B : s_B) : Option s_O :=
  bif Nat.ble 5 M.1.length && s_wf L st M then
    match M with
    | (E, R, _, H) => s_fn E.length (fun n => some (.inr (t, L, (2, (n : Int)) :: st, cn, sn, (E ++ [(lo, hi)], R, B, H)))) else none
def s_q1 (t : List s_I) (L : s_L) (st : List s_V) (cn sn : Nat) (M : s_M) (a b : Nat) : Option s_O := match s_find L a with
  | some v => bif s_tk b v then some (.inr (t, L, v :: st, cn, sn, M)) else none
  | none => none
def s_q2 (nL : Nat) (t : List s_I) (L : s_L) (st : List s_V) (cn sn : Nat) (M : s_M) (a b : Nat) : Option s_O := match st with
  | v :: rest => bif s_tk b v && Nat.blt a nL then s_fil1 a L (fun L' => some (.inr (t, (a, v) :: L', rest, cn, sn, M))) else none
  | [] => none
def s_q3 (nL : Nat) (t : List s_I) (L : s_L) (st : List s_V) (cn sn : Nat) (M : s_M) (a b : Nat) : Option s_O := match st with
  | v :: rest => bif s_tk b v && Nat.blt (a + 1) nL then s_fil2 a L (fun L' => some (.inr (t, (a, v) :: L', rest, cn, sn, M))) else none
  | [] => none
def s_q4 (nL : Nat) (t : List s_I) (L : s_L) (st : List s_V) (cn sn : Nat) (M : s_M) (a : Nat) (v : Int) : Option s_O := match s_find L a with
  | some u => match s_k M.1 u with
    | some x => bif Nat.blt a nL then s_fi (Int32.ofInt x + Int32.ofInt v).toInt (fun m => s_fil1 a L (fun L' => some (.inr (t, (a, (0, m)) :: L', st, cn, sn, M)))) else none
    | none => none
  | none => none
def s_q5 (t : List s_I) (L : s_L) (st : List s_V) (cn sn : Nat) (M : s_M) : Option s_O := match st with
  | v :: rest => bif s_c2 v then none else some (.inr (t, L, v :: v :: rest, cn, sn, M))
  | [] => none
def s_q6 (t : List s_I) (L : s_L) (st : List s_V) (cn sn : Nat) (M : s_M) : Option s_O := match st with
  | v :: rest => bif s_c2 v then none else some (.inr (t, L, rest, cn, sn, M))
  | [] => none
def s_q7 (t : List s_I) (L : s_L) (st : List s_V) (cn sn : Nat) (M : s_M) : Option s_O := match st with
  | v :: u :: rest => bif s_c2 v || s_c2 u then none else some (.inr (t, L, v :: u :: v :: rest, cn, sn, M))
  | _ => none
def s_q8 (t : List s_I) (L : s_L) (st : List s_V) (cn sn : Nat) (M : s_M) : Option s_O := match st with
  | v :: u :: rest => bif s_c2 v then some (.inr (t, L, v :: v :: u :: rest, cn, sn, M)) else bif s_c2 u then none else some (.inr (t, L, v :: u :: v :: u :: rest, cn, sn, M))
  | _ => none
def s_q11v (t : List s_I) (L : s_L) (rest : List s_V) (cn sn : Nat) (M : s_M) (i j : Nat) : Option s_O :=
  match M.2.2.1.find? (fun q => Nat.beq q.1 i && Nat.beq q.2.1 j) with
  | some q => some (.inr (t, L, (2, (q.2.2 : Int)) :: rest, cn, sn, M))
  | none => match M.1[i]?, M.1[j]? with
    | some ix, some iy => s_fi (ix.1 - iy.2) (fun lo => s_fi (ix.2 - iy.1) (fun hi => s_fn M.1.length (fun n => s_fresh t L rest cn sn M lo hi ((i, j, n) :: M.2.2.1))))
    | _, _ => none
def s_q11 (t : List s_I) (L : s_L) (st : List s_V) (cn sn : Nat) (M : s_M) (a : Nat) : Option s_O := match st with
  | y :: x :: rest => match s_k M.1 x, s_k M.1 y with
    | some m, some n => s_push t L rest cn sn M (0, (s_fib a (Int32.ofInt m) (Int32.ofInt n)).toInt)
    | _, _ => bif Nat.beq a 1 && (Nat.beq x.1 2 && Nat.beq y.1 2) then s_q11v t L rest cn sn M x.2.toNat y.2.toNat
      else bif s_tk 0 x && s_tk 0 y then s_fresh t L rest cn sn M (-2147483648) 2147483647 M.2.2.1 else none
  | _ => none
def s_q12 (t : List s_I) (L : s_L) (st : List s_V) (cn sn : Nat) (M : s_M) (a : Nat) : Option s_O := match st with
  | y :: x :: rest => match s_k M.1 x, s_k M.1 y with
    | some m, some n => bif decide (Int32.ofInt n = 0) then none else s_push t L rest cn sn M (0, (s_fid a (Int32.ofInt m) (Int32.ofInt n)).toInt)
    | _, _ => none
  | _ => none
def s_q13 (t : List s_I) (L : s_L) (st : List s_V) (cn sn : Nat) (M : s_M) (a : Nat) : Option s_O := match st with
  | x :: rest => match s_k M.1 x with
    | some m => s_push t L rest cn sn M (0, (s_fiu a (Int32.ofInt m)).toInt)
    | none => bif Nat.beq a 1 && s_tk 0 x then s_fresh t L rest cn sn M (-128) 127 M.2.2.1 else none
  | _ => none
def s_q14 (t : List s_I) (L : s_L) (st : List s_V) (cn sn : Nat) (M : s_M) (a : Nat) : Option s_O := match st with
  | y :: x :: rest => match s_kl M.1 x, s_kl M.1 y with
    | some m, some n => s_push t L rest cn sn M (1, (s_flb a (Int64.ofInt m) (Int64.ofInt n)).toInt)
    | some m, none => bif Nat.beq a 2 && (decide (m = 1) && s_tk 1 y) then some (.inr (t, L, y :: rest, cn, sn, M)) else none
    | none, some n => bif Nat.beq a 2 && (decide (n = 1) && s_tk 1 x) then some (.inr (t, L, x :: rest, cn, sn, M)) else none
    | _, _ => none
  | _ => none
def s_q15 (t : List s_I) (L : s_L) (st : List s_V) (cn sn : Nat) (M : s_M) (a : Nat) : Option s_O := match st with
  | y :: x :: rest => match s_kl M.1 x, s_kl M.1 y with
    | some m, some n => bif decide (Int64.ofInt n = 0) then none else s_push t L rest cn sn M (1, (s_fld a (Int64.ofInt m) (Int64.ofInt n)).toInt)
    | none, some n => bif decide (n = 1) && (s_tk 1 x && Nat.beq a 1) then some (.inr (t, L, (1, 0) :: rest, cn, sn, M)) else bif decide (n = 1) && (s_tk 1 x && Nat.beq a 0) then some (.inr (t, L, x :: rest, cn, sn, M)) else none
    | _, _ => none
  | _ => none
def s_q16 (t : List s_I) (L : s_L) (st : List s_V) (cn sn : Nat) (M : s_M) : Option s_O := match st with
  | x :: rest => match s_kl M.1 x with
    | some a => s_push t L rest cn sn M (1, (-(Int64.ofInt a)).toInt)
    | none => none
  | _ => none
def s_q17 (t : List s_I) (L : s_L) (st : List s_V) (cn sn : Nat) (M : s_M) : Option s_O := match st with
  | x :: rest => match s_k M.1 x with
    | some a => s_push t L rest cn sn M (1, (Int32.ofInt a).toInt64.toInt)
    | none => match s_iv M.1 x with
      | some _ => bif Nat.beq x.1 2 then some (.inr (t, L, (3, x.2) :: rest, cn, sn, M)) else none
      | none => none
  | _ => none
def s_q18 (t : List s_I) (L : s_L) (st : List s_V) (cn sn : Nat) (M : s_M) : Option s_O := match st with
  | x :: rest => match s_kl M.1 x with
    | some a => s_push t L rest cn sn M (0, (Int64.ofInt a).toInt32.toInt)
    | none => none
  | _ => none
def s_o (c : Option (Nat × Nat × Int)) : Option s_O := match c with
  | some c => some (.inl c)
  | none => none
def s_q19 (t : List s_I) (L : s_L) (st : List s_V) (cn sn : Nat) (M : s_M) : Option s_O := match st with
  | y :: x :: rest => match s_ivl M.1 x, s_ivl M.1 y with
    | some ix, some iy => match s_lt M.2.1 ix iy x y with
      | 1 => some (.inr (t, L, (0, -1) :: rest, cn, sn, M))
      | 0 => match s_eq ix iy x y with
        | 1 => some (.inr (t, L, (0, 0) :: rest, cn, sn, M))
        | 0 => some (.inr (t, L, (0, 1) :: rest, cn, sn, M))
        | _ => s_o (s_eqc ix iy x y)
      | _ => s_o (s_ltc ix iy x y)
    | _, _ => none
  | _ => none
def s_jmp (full : List s_I) (pc : Nat) (L : s_L) (st : List s_V) (cn sn : Nat) (M : s_M) : Option s_O := match s_jump full pc with
  | some t' => some (.inr (t', L, st, cn, sn, M))
  | none => none
def s_nxt (r : s_I) (t : List s_I) (L : s_L) (st : List s_V) (cn sn : Nat) (M : s_M) : Option s_O := bif s_go r t then some (.inr (t, L, st, cn, sn, M)) else none
def s_q21 (full : List s_I) (r : s_I) (t : List s_I) (L : s_L) (st : List s_V) (cn sn : Nat) (M : s_M) (a b : Nat) : Option s_O := match st with
  | x :: rest => match s_iv M.1 x with
    | some ix => match s_cond M.2.1 ix (0, 0) x (0, 0) b with
      | 1 => s_jmp full a L rest cn sn M
      | 0 => s_nxt r t L rest cn sn M
      | _ => s_o (s_condc ix (0, 0) x (0, 0) b)
    | none => none
  | _ => none
def s_q22 (full : List s_I) (r : s_I) (t : List s_I) (L : s_L) (st : List s_V) (cn sn : Nat) (M : s_M) (a b : Nat) : Option s_O := match st with
  | y :: x :: rest => match s_iv M.1 x, s_iv M.1 y with
    | some ix, some iy => match s_cond M.2.1 ix iy x y b with
      | 1 => s_jmp full a L rest cn sn M
      | 0 => s_nxt r t L rest cn sn M
      | _ => s_o (s_condc ix iy x y b)
    | _, _ => none
  | _ => none
def s_q23 (full : List s_I) (r : s_I) (t : List s_I) (L : s_L) (st : List s_V) (cn sn : Nat) (M : s_M) (a : Nat) (nn : Bool) : Option s_O := match st with
  | x :: rest => bif Nat.beq x.1 4 || Nat.beq x.1 5 then (bif (Nat.beq x.1 5) == nn then s_jmp full a L rest cn sn M else s_nxt r t L rest cn sn M) else none
  | _ => none
def s_q25 (full : List s_I) (r : s_I) (L : s_L) (st : List s_V) (cn sn : Nat) (M : s_M) : Option s_O := match r.2.2.2.2.2.2.2 with
  | .tableswitch dflt lo hi offs => match st with
    | x :: rest => match s_iv M.1 x with
      | some ix =>
        bif decide (ix.2 < lo) || decide (hi < ix.1) then
          match s_tgt r.1 dflt with
          | some pc => s_jmp full pc L rest cn sn M
          | none => none
        else bif decide (ix.1 = ix.2) then
          match offs[(ix.1 - lo).toNat]? with
          | some off => match s_tgt r.1 off with
            | some pc => s_jmp full pc L rest cn sn M
            | none => none
          | none => none
        else bif Nat.beq x.1 2 then some (.inl (0, x.2.toNat, bif decide (ix.1 < lo) then lo else ix.1 + 1)) else none
      | none => none
    | _ => none
  | _ => none
/-- of a field: 0 int, 1 long, 2 boolean, 3 a reference; is it final -/
abbrev s_FT : Type := List (List (Nat × Bool))
def s_bo (v : s_V) : Bool := Nat.beq v.1 0 && (decide (v.2 = 0) || decide (v.2 = 1))
def s_fok (ty : Nat) (v : s_V) : Bool := match ty with
  | 0 => s_tk 0 v
  | 1 => s_tk 1 v
  | 2 => s_bo v
  | _ => s_tk 2 v
def s_dv (ty : Nat) : s_V := match ty with
  | 0 => (0, 0)
  | 1 => (1, 0)
  | 2 => (0, 0)
  | _ => (4, 0)
def s_dva (a : Nat) : s_V := match a with
  | 1 => (1, 0)
  | _ => (0, 0)
def s_dfl : Nat → List (Nat × Bool) → List (Nat × s_V)
  | _, [] => []
  | j, f :: t => (j, s_dv f.1) :: s_dfl (j + 1) t
def s_cell (M : s_M) (v : s_V) : Option s_C := bif Nat.beq v.1 5 then M.2.2.2[v.2.toNat]? else none
/-- an index within: it, or a cut -/
def s_idx (E : s_E) (n : Nat) (j : s_V) : Option ((Nat × Nat × Int) ⊕ Nat) := match s_iv E j with
  | some ix => bif decide (0 ≤ ix.1) && decide (ix.2 < (n : Int)) then
      (bif decide (ix.1 = ix.2) then s_fn ix.1.toNat (fun m => some (.inr m)) else bif Nat.beq j.1 2 then some (.inl (0, j.2.toNat, ix.1 + 1)) else none) else none
  | none => none
def s_inb (E : s_E) (n : Nat) (j : s_V) : Bool := match s_iv E j with
  | some ix => decide (0 ≤ ix.1) && decide (ix.2 < (n : Int))
  | none => false
/-- a cell for a load or store of this kind -/
def s_akd (a tag : Nat) : Bool := match a with
  | 0 => Nat.beq tag 0
  | 1 => Nat.beq tag 1
  | 2 => Nat.beq tag 2 || Nat.beq tag 3
  | _ => Nat.beq tag 4
def s_aty (a : Nat) : Nat := match a with
  | 0 => 0
  | 1 => 1
  | 2 => 0
  | _ => 4
def s_mk (t : List s_I) (L : s_L) (st : List s_V) (cn sn : Nat) (M : s_M) (c : s_C) : Option s_O :=
  bif s_wf L st M then
    match M with
    | (E, R, B, H0) => s_fn H0.length (fun n => s_app H0 c (fun H => s_fn (cn + 1) (fun cn => s_fn (sn + c.2.2.1) (fun sn => some (.inr (t, L, (5, (n : Int)) :: st, cn, sn, (E, R, B, H))))))) else none
def s_stv (M : s_M) (tag : Nat) (v : s_V) : Bool := match tag with
  | 0 => s_tk 0 v
  | 1 => s_tk 1 v
  | 2 => s_bo v
  | 3 => match s_iv M.1 v with
    | some iv => decide (-128 ≤ iv.1) && decide (iv.2 ≤ 127)
    | none => false
  | _ => match s_cell M v with
    | some c => !c.1 && Nat.beq c.2.1 1
    | none => false
def s_set (t : List s_I) (L : s_L) (st : List s_V) (cn sn : Nat) (M : s_M) (p : Nat) (c : s_C) (k : Nat) (v : s_V) : Option s_O :=
  match M, c with
  | (E, R, B, H0), (x, y, n, d, f0) => s_putK f0 k v (fun fs => s_hset H0 p (x, y, n, d, fs) (fun H => some (.inr (t, L, st, cn, sn, (E, R, B, H)))))
def s_q26 (t : List s_I) (L : s_L) (st : List s_V) (cn sn : Nat) (M : s_M) (kd a b : Nat) : Option s_O := match st with
  | u :: rest => match s_cell M u with
    | some c => bif Nat.ble kd 1 && (!c.1 && (Nat.beq c.2.1 a && Nat.blt b c.2.2.1)) then some (.inr (t, L, s_lk c.2.2.2.2 b c.2.2.2.1 :: rest, cn, sn, M)) else none
    | none => none
  | _ => none
def s_q27 (ft : s_FT) (o : Nat) (ini : Bool) (t : List s_I) (L : s_L) (st : List s_V) (cn sn : Nat) (M : s_M) (kd a b : Nat) : Option s_O := match st with
  | v :: u :: rest => match s_cell M u with
    | some c => match (ft.getD a []).getD b (9, true) with
      | (ty, fin) => bif Nat.ble kd 1 && (!c.1 && (Nat.beq c.2.1 a && (Nat.blt b c.2.2.1 && (s_fok ty v && (Nat.blt ty 4 && (!fin || (Nat.beq kd 0 && (ini && Nat.beq o a)))))))) then s_set t L rest cn sn M u.2.toNat c b v else none
    | none => none
  | _ => none
def s_q28 (scr : Nat) (t : List s_I) (L : s_L) (st : List s_V) (cn sn : Nat) (M : s_M) : Option s_O := match st with
  | u :: rest => bif Nat.blt 0 scr && Nat.beq u.1 7 then some (.inr (t, L, (0, ((scr - 1 : Nat) : Int)) :: rest, cn, sn, M)) else match s_cell M u with
    | some c => bif c.1 && Nat.blt c.2.1 5 then some (.inr (t, L, (0, (c.2.2.1 : Int)) :: rest, cn, sn, M)) else none
    | none => none
  | _ => none
def s_q29 (bc bs : Nat) (t : List s_I) (L : s_L) (st : List s_V) (cn sn : Nat) (M : s_M) (a : Nat) : Option s_O := match st with
  | x :: rest => match s_k M.1 x with
    | some n => bif decide (0 ≤ n) && (decide (n ≤ 65536) && (Nat.ble (cn + 1) bc && Nat.ble (sn + n.toNat) bs)) then s_mk t L rest cn sn M (true, a, n.toNat, s_dva a, []) else none
    | _ => none
  | _ => none
def s_q30 (bc bs : Nat) (t : List s_I) (L : s_L) (st : List s_V) (cn sn : Nat) (M : s_M) (kd a : Nat) : Option s_O := match st with
  | x :: rest => match s_k M.1 x with
    | some n => bif decide (0 ≤ n) && (decide (n ≤ 65536) && (Nat.ble (cn + 1) bc && (Nat.ble (sn + n.toNat) bs && (Nat.beq kd 9 && Nat.beq a 1)))) then s_mk t L rest cn sn M (true, 4, n.toNat, (4, 0), []) else none
    | _ => none
  | _ => none
def s_q31 (ft : s_FT) (bc bs : Nat) (t : List s_I) (L : s_L) (st : List s_V) (cn sn : Nat) (M : s_M) (kd a b : Nat) : Option s_O :=
  bif Nat.ble (cn + 1) bc && (Nat.ble (sn + b) bs && Nat.beq kd 9) then s_mk t L st cn sn M (false, a, b, (0, 0), s_dfl 0 (ft.getD a [])) else none
def s_q32 (scr : Nat) (t : List s_I) (L : s_L) (st : List s_V) (cn sn : Nat) (M : s_M) (a : Nat) : Option s_O := match st with
  | j :: u :: rest => bif Nat.blt 0 scr && (Nat.beq u.1 7 && (Nat.beq a 0 && Nat.ble scr 6)) then
      match s_idx M.1 (scr - 1) j with
      | some (.inr k) => some (.inr (t, L, (2, (k : Int)) :: rest, cn, sn, M))
      | some (.inl c) => some (.inl c)
      | none => none
    else match s_cell M u with
    | some c => bif c.1 && s_akd a c.2.1 then
        bif c.2.2.2.2.isEmpty && (s_inb M.1 c.2.2.1 j && s_tk (s_aty a) c.2.2.2.1) then some (.inr (t, L, c.2.2.2.1 :: rest, cn, sn, M))
        else match s_idx M.1 c.2.2.1 j with
        | some (.inr k) => bif s_tk (s_aty a) (s_lk c.2.2.2.2 k c.2.2.2.1) then some (.inr (t, L, s_lk c.2.2.2.2 k c.2.2.2.1 :: rest, cn, sn, M)) else none
        | some (.inl c) => some (.inl c)
        | none => none
      else none
    | none => none
  | _ => none
def s_q33 (t : List s_I) (L : s_L) (st : List s_V) (cn sn : Nat) (M : s_M) (a : Nat) : Option s_O := match st with
  | v :: j :: u :: rest => match s_cell M u with
    | some c => bif c.1 && (s_akd a c.2.1 && s_stv M c.2.1 v) then
        match s_idx M.1 c.2.2.1 j with
        | some (.inr k) => s_set t L rest cn sn M u.2.toNat c k v
        | some (.inl c) => some (.inl c)
        | none => none
      else none
    | none => none
  | _ => none
def s_tkn : Nat → List s_V → List s_V → Option (List s_V × List s_V)
  | 0, st, acc => some (acc, st)
  | n + 1, v :: st, acc => s_tkn n st (v :: acc)
  | _ + 1, [], _ => none
def s_sum : List s_V → Nat
  | [] => 0
  | v :: t => (bif s_c2 v then 2 else 1) + s_sum t
def s_q37 (t : List s_I) (L : s_L) (st : List s_V) (cn sn : Nat) (M : s_M) (kd : Nat) : Option s_O := match st with
  | a :: rest => match s_cell M a with
    | some _ => bif Nat.beq kd 8 && Nat.ble (s_sum rest) 8 then some (.inr (t, L, rest, cn, sn, M)) else none
    | none => none
  | _ => none
-- by what it does
def s_d1 (nL : Nat) (t : List s_I) (L : s_L) (st : List s_V) (cn sn : Nat) (M : s_M) (q kd a b : Nat) (v : Int) : Option s_O :=
  bif Nat.blt q 2 then (bif Nat.beq q 0 then s_push t L st cn sn M (a, v) else s_q1 t L st cn sn M a b)
  else bif Nat.blt q 4 then (bif Nat.beq q 2 then s_q2 nL t L st cn sn M a b else s_q3 nL t L st cn sn M a b)
  else s_q4 nL t L st cn sn M a v
def s_d2 (t : List s_I) (L : s_L) (st : List s_V) (cn sn : Nat) (M : s_M) (q kd a b : Nat) (v : Int) : Option s_O :=
  bif Nat.blt q 7 then (bif Nat.beq q 5 then s_q5 t L st cn sn M else s_q6 t L st cn sn M)
  else bif Nat.blt q 9 then (bif Nat.beq q 7 then s_q7 t L st cn sn M else s_q8 t L st cn sn M)
  else bif Nat.beq q 9 && Nat.beq kd 10 then some (.inr (t, L, (0, v) :: st, cn, sn, M))
  else bif Nat.beq q 10 && Nat.beq kd 11 then some (.inr (t, L, (1, v) :: st, cn, sn, M)) else none
def s_d3 (t : List s_I) (L : s_L) (st : List s_V) (cn sn : Nat) (M : s_M) (q a : Nat) : Option s_O :=
  bif Nat.blt q 13 then (bif Nat.beq q 11 then s_q11 t L st cn sn M a else s_q12 t L st cn sn M a)
  else bif Nat.beq q 13 then s_q13 t L st cn sn M a
  else bif Nat.beq q 14 then s_q14 t L st cn sn M a else s_q15 t L st cn sn M a
def s_d4 (t : List s_I) (L : s_L) (st : List s_V) (cn sn : Nat) (M : s_M) (q : Nat) : Option s_O :=
  bif Nat.blt q 18 then (bif Nat.beq q 16 then s_q16 t L st cn sn M else s_q17 t L st cn sn M)
  else (bif Nat.beq q 18 then s_q18 t L st cn sn M else s_q19 t L st cn sn M)
def s_d5 (full : List s_I) (r : s_I) (t : List s_I) (L : s_L) (st : List s_V) (cn sn : Nat) (M : s_M) (q a b : Nat) : Option s_O :=
  bif Nat.blt q 22 then (bif Nat.beq q 20 then s_jmp full a L st cn sn M else s_q21 full r t L st cn sn M a b)
  else bif Nat.beq q 22 then s_q22 full r t L st cn sn M a b
  else bif Nat.beq q 25 then s_q25 full r L st cn sn M else s_q23 full r t L st cn sn M a (Nat.beq q 24)
def s_d6 (ft : s_FT) (scr : Nat) (o : Nat) (ini : Bool) (bc bs : Nat) (t : List s_I) (L : s_L) (st : List s_V) (cn sn : Nat) (M : s_M) (q kd a b : Nat) : Option s_O :=
  bif Nat.blt q 28 then (bif Nat.beq q 26 then s_q26 t L st cn sn M kd a b else s_q27 ft o ini t L st cn sn M kd a b)
  else bif Nat.blt q 30 then (bif Nat.beq q 28 then s_q28 scr t L st cn sn M else s_q29 bc bs t L st cn sn M a)
  else (bif Nat.beq q 30 then s_q30 bc bs t L st cn sn M kd a else s_q31 ft bc bs t L st cn sn M kd a b)
def s_d7 (scr : Nat) (t : List s_I) (L : s_L) (st : List s_V) (cn sn : Nat) (M : s_M) (q kd a : Nat) : Option s_O :=
  bif Nat.beq q 32 then s_q32 scr t L st cn sn M a else bif Nat.beq q 33 then s_q33 t L st cn sn M a else bif Nat.beq q 37 then s_q37 t L st cn sn M kd else none
def s_do (full : List s_I) (ft : s_FT) (scr : Nat) (o nL : Nat) (ini : Bool) (bc bs : Nat) (r : s_I) (t : List s_I) (L : s_L) (st : List s_V) (cn sn : Nat) (M : s_M) : Option s_O :=
  match r with
  | (_, _, q, kd, a, b, v, _) =>
    bif Nat.blt q 20 then
      bif s_go r t then
        bif Nat.blt q 5 then s_d1 nL t L st cn sn M q kd a b v
        else bif Nat.blt q 11 then s_d2 t L st cn sn M q kd a b v
        else bif Nat.blt q 16 then s_d3 t L st cn sn M q a
        else s_d4 t L st cn sn M q
      else none
    else bif Nat.blt q 26 then s_d5 full r t L st cn sn M q a b
    else bif s_go r t then (bif Nat.blt q 32 then s_d6 ft scr o ini bc bs t L st cn sn M q kd a b else s_d7 scr t L st cn sn M q kd a) else none
end
section
-- loops and methods of the machine over bounds
/-- of a method: locals, answer (0 none, 1 int, 2 boolean, 3 long, 4 Build), is it <init>, cells, slots, its class -/
abbrev s_MI : Type := Nat × Nat × Bool × Nat × Nat × Nat
abbrev s_Call : Type := Nat → List s_V → s_M → Option (List (Option s_V × s_M))
def s_cok (bc bs cn sn : Nat) (q : s_MI) (r : s_I) (t : List s_I) (L : s_L) (rest : List s_V) (M : s_M) : Bool :=
  Nat.ble (s_sum rest) 8 && (Nat.ble (cn + q.2.2.2.1) bc && (Nat.ble (sn + q.2.2.2.2.1) bs && (s_go r t && (s_wL M.1.length M.2.2.2.length L && rest.all (s_wV M.1.length M.2.2.2.length)))))
def s_q34 (mi : List s_MI) (bc bs : Nat) (r : s_I) (t : List s_I) (L : s_L) (st : List s_V) (cn sn : Nat) (M : s_M) (kd a b : Nat) : Option (Nat × List s_V × List s_V × Nat × Nat) :=
  match s_tkn b st [] with
  | some (as, u :: rest) => match s_cell M u, mi[a]? with
    | some c, some q => bif (Nat.beq kd 2 || Nat.beq kd 3) && (!c.1 && (Nat.beq c.2.1 q.2.2.2.2.2 && s_cok bc bs cn sn q r t L rest M)) then some (a, u :: as, rest, q.2.2.2.1, q.2.2.2.2.1) else none
    | _, _ => none
  | _ => none
def s_q35 (mi : List s_MI) (bc bs : Nat) (r : s_I) (t : List s_I) (L : s_L) (st : List s_V) (cn sn : Nat) (M : s_M) (kd a b : Nat) : Option (Nat × List s_V × List s_V × Nat × Nat) :=
  match s_tkn b st [] with
  | some (as, rest) => match mi[a]? with
    | some q => bif (Nat.beq kd 4 || Nat.beq kd 5) && s_cok bc bs cn sn q r t L rest M then some (a, as, rest, q.2.2.2.1, q.2.2.2.2.1) else none
    | _ => none
  | _ => none
def s_q36 (mi : List s_MI) (bc bs : Nat) (r : s_I) (t : List s_I) (L : s_L) (st : List s_V) (cn sn : Nat) (M : s_M) (kd a b : Nat) : Option (Nat × List s_V × List s_V × Nat × Nat) :=
  match s_tkn b st [] with
  | some (as, u :: rest) => match s_cell M u, mi[a]? with
    | some _, some q => bif (Nat.beq kd 6 || Nat.beq kd 7) && s_cok bc bs cn sn q r t L rest M then some (a, u :: as, rest, q.2.2.2.1, q.2.2.2.2.1) else none
    | _, _ => none
  | _ => none
def s_doE (mi : List s_MI) (bc bs : Nat) (r : s_I) (t : List s_I) (L : s_L) (st : List s_V) (cn sn : Nat) (M : s_M) : Option (Nat × List s_V × List s_V × Nat × Nat) :=
  match r with
  | (_, _, q, kd, a, b, _, _) => bif Nat.beq q 34 then s_q34 mi bc bs r t L st cn sn M kd a b else bif Nat.beq q 35 then s_q35 mi bc bs r t L st cn sn M kd a b else s_q36 mi bc bs r t L st cn sn M kd a b
def s_all {β γ : Type} (f : β → Option (List γ)) : List β → Option (List γ)
  | [] => some []
  | o :: os => match f o with
    | none => none
    | some a => match s_all f os with
      | none => none
      | some b => some (a ++ b)
def s_eset {α : Type} : s_E → Nat → Int × Int → (s_E → α) → α
  | [], _, _, k => k []
  | _ :: t, 0, c, k => k (c :: t)
  | u :: t, n + 1, c, k => s_eset t n c (fun t' => k (u :: t'))
theorem s_eset_eq {α : Type} : ∀ (l : s_E) (n : Nat) (c : Int × Int) (k : s_E → α), s_eset l n c k = k (l.set n c)
  | [], _, _, _ => rfl
  | _ :: _, 0, _, _ => rfl
  | u :: t, n + 1, c, k => by simp only [s_eset, s_eset_eq t n c, List.set_cons_succ]
def s_min (a b : Int) : Int := bif decide (a ≤ b) then a else b
def s_max (a b : Int) : Int := bif decide (a ≤ b) then b else a
theorem s_min_le {a b x : Int} (h1 : x ≤ a) (h2 : x ≤ b) : x ≤ s_min a b := by
  unfold s_min
  cases decide (a ≤ b)
  · exact h2
  · exact h1
theorem s_max_le {a b x : Int} (h1 : a ≤ x) (h2 : b ≤ x) : s_max a b ≤ x := by
  unfold s_max
  cases decide (a ≤ b)
  · exact h1
  · exact h2
def s_cut (M : s_M) (q : Nat × Nat × Int) : Option (s_M × s_M) := match q with
  | (0, k, m) => match M with
    | (E, R, B, H) => match E[k]? with
      | some (lo, hi) => s_fi (m - 1) (fun m1 => s_fi m (fun m => s_eset E k (lo, m1) (fun E1 => s_eset E k (m, hi) (fun E2 => some ((E1, R, B, H), (E2, R, B, H))))))
      | none => none
  | (_, i, j) => match M with
    | (E, R, B, H) => s_fn j.toNat (fun j => match E[i]?, E[j]? with
      | some (a, b), some (c, d) => s_fi (s_min b (d - 1)) (fun b1 => s_fi (s_max c (a + 1)) (fun c1 => s_fi (s_min d b) (fun d2 => s_fi (s_max a c) (fun a2 =>
          s_eset E i (a, b1) (fun E1 => s_eset E1 j (c1, d) (fun E1 => s_eset E j (c, d2) (fun E2 => s_eset E2 i (a2, b) (fun E2 => some ((E1, (i, j, 1) :: R, B, H), (E2, (j, i, 0) :: R, B, H))))))))))
      | _, _ => none)
def s_two {γ : Type} (f : s_M → Option (List γ)) (M : s_M × s_M) : Option (List γ) := match f M.1 with
  | none => none
  | some a => match f M.2 with
    | none => none
    | some b => some (a ++ b)
def s_res {γ : Type} (f : s_X → Option (List γ)) (x : Option s_O) (g : s_M → s_X) (M : s_M) : Option (List γ) := match x with
  | none => none
  | some (.inr X) => f X
  | some (.inl c) => match s_cut M c with
    | none => none
    | some MM => s_two (fun M => f (g M)) MM
def s_cal {γ : Type} (f : s_X → Option (List γ)) (CALL : s_Call) (x : Option (Nat × List s_V × List s_V × Nat × Nat)) (t : List s_I) (L : s_L) (cn sn : Nat) (M : s_M) : Option (List γ) := match x with
  | none => none
  | some (j, as, rest, mc, ms) => match CALL j as M with
    | none => none
    | some outs => s_all (fun out => s_fn (cn + mc) (fun cn => s_fn (sn + ms) (fun sn => f (t, L, out.1.toList ++ rest, cn, sn, out.2)))) outs
def s_loop (CALL : s_Call) (full : List s_I) (ft : s_FT) (mi : List s_MI) (scr : Nat) (o nL : Nat) (ini : Bool) (bc bs : Nat) : Nat → s_X → Option (List s_X)
  | 0, _ => none
  | n + 1, (code, L, st, cn, sn, M) => match code with
    | [] => none
    | r :: t => bif Nat.ble 40 r.2.2.1 then some [(r :: t, L, st, cn, sn, M)] else
      bif Nat.ble 34 r.2.2.1 && Nat.blt r.2.2.1 37 then s_cal (s_loop CALL full ft mi scr o nL ini bc bs n) CALL (s_doE mi bc bs r t L st cn sn M) t L cn sn M
      else s_res (s_loop CALL full ft mi scr o nL ini bc bs n) (s_do full ft scr o nL ini bc bs r t L st cn sn M) (fun M => (r :: t, L, st, cn, sn, M)) M
def s_args : Nat → List s_V → s_L
  | _, [] => []
  | i, v :: vs => (i, v) :: s_args (bif s_c2 v then i + 2 else i + 1) vs
def s_rti (rt : Nat) (v : s_V) (M : s_M) : Option (Option s_V × s_M) := match rt with
  | 1 => bif s_tk 0 v then some (some v, M) else none
  | 2 => match s_iv M.1 v with
    | some iv => bif decide (0 ≤ iv.1) && decide (iv.2 ≤ 1) then some (some v, M) else none
    | none => none
  | _ => none
def s_retX (rt bc bs : Nat) (X : s_X) : Option (Option s_V × s_M) := match X with
  | (r :: _, _, st, cn, sn, M) => bif Nat.ble cn bc && Nat.ble sn bs then
      match st with
      | [] => bif Nat.beq r.2.2.1 43 && Nat.beq rt 0 then some (none, M) else none
      | [v] => bif Nat.beq r.2.2.1 40 then s_rti rt v M
        else bif Nat.beq r.2.2.1 41 && (Nat.beq rt 3 && s_tk 1 v) then some (some v, M)
        else bif Nat.beq r.2.2.1 42 && (Nat.beq rt 4 && s_tk 4 v) then some (some v, M) else none
      | _ => none
    else none
  | _ => none
def s_rets (rt bc bs : Nat) : List s_X → Option (List (Option s_V × s_M))
  | [] => some []
  | X :: Xs => match s_retX rt bc bs X with
    | none => none
    | some q => match s_rets rt bc bs Xs with
      | none => none
      | some qs => some (q :: qs)
def s_body (codes : List (List s_I)) (ft : s_FT) (mi : List s_MI) (F : Nat) (K : s_Call) : s_Call := fun j as M => match mi[j]? with
    | none => none
    | some q => bif Nat.ble (s_sum as) q.1 then
        match s_loop K (codes.getD j []) ft mi 0 q.2.2.2.2.2 q.1 q.2.2.1 q.2.2.2.1 q.2.2.2.2.1 F (codes.getD j [], s_args 0 as, [], 0, 0, M) with
        | none => none
        | some Xs => s_rets q.2.1 q.2.2.2.1 q.2.2.2.2.1 Xs
      else none
/-- ov: answers that are known of methods that touch no cell -/
def s_run (codes : List (List s_I)) (ft : s_FT) (mi : List s_MI) (F : Nat) (ov : Nat → List s_V → Option s_V) : Nat → s_Call
  | 0 => fun _ _ _ => none
  | d + 1 => fun j as M => match ov j as with
    | some v => some [(some v, M)]
    | none => s_body codes ft mi F (s_run codes ft mi F ov d) j as M
end
section
-- what the machine over bounds stands for: rows that the steps rest on
section S20
variable {σ σ' : Nat → Int} {ρ ρ' : Nat → Nat} {b : Nat}
theorem s_lk_put (l : List (Nat × s_V)) (k : Nat) (v d : s_V) (j : Nat) : s_lk (s_put l k v) j d = if j = k then v else s_lk l j d := by
  induction l with
  | nil =>
    simp only [s_put, s_lk, s_beq]
    by_cases h : j = k
    · subst h; simp
    · have e : (k == j) = false := by simpa using Ne.symm h
      simp [h, e]
  | cons q t ih =>
    obtain ⟨i, u⟩ := q
    simp only [s_put, s_beq]
    by_cases h : i = k
    · subst h
      simp only [beq_self_eq_true, cond_true, s_lk, s_beq]
      by_cases h2 : j = i
      · subst h2; simp
      · have e : (i == j) = false := by simpa using Ne.symm h2
        simp [h2, e]
    · have h1 : (i == k) = false := by simpa using h
      simp only [h1, cond_false, s_lk, s_beq, ih]
      by_cases h2 : i = j
      · subst h2; simp [h]
      · have h3 : (i == j) = false := by simpa using h2
        simp only [h3, cond_false]
theorem s_ch_get (H : List s_C) : ∀ (i q : Nat), g_get (s_ch σ ρ b i H) q = (H[q]?).map (fun c => (ρ (i + q), s_cc σ ρ b c)) := by
  induction H with
  | nil => intro i q; rfl
  | cons c t ih =>
    intro i q
    cases q with
    | zero => rfl
    | succ q =>
      have h := ih (i + 1) q
      show g_get (s_ch σ ρ b (i + 1) t) q = _
      rw [h, show i + 1 + q = i + (q + 1) by omega]
      rfl
theorem s_ch_set (H : List s_C) : ∀ (i q : Nat) (c : s_C), (s_ch σ ρ b i H).set q (ρ (i + q), s_cc σ ρ b c) = s_ch σ ρ b i (H.set q c) := by
  induction H with
  | nil => intro i q c; rfl
  | cons u t ih =>
    intro i q c
    cases q with
    | zero => rfl
    | succ q =>
      have h := ih (i + 1) q c
      rw [show i + 1 + q = i + (q + 1) by omega] at h
      show (ρ i, s_cc σ ρ b u) :: (s_ch σ ρ b (i + 1) t).set q _ = _
      rw [h]
      rfl
theorem s_ch_app (H : List s_C) : ∀ (i : Nat) (c : s_C), s_ch σ ρ b i (H ++ [c]) = s_ch σ ρ b i H ++ [(ρ (i + H.length), s_cc σ ρ b c)] := by
  induction H with
  | nil => intro i c; rfl
  | cons u t ih =>
    intro i c
    show (ρ i, s_cc σ ρ b u) :: s_ch σ ρ b (i + 1) (t ++ [c]) = _
    rw [ih (i + 1) c, show i + 1 + t.length = i + (t.length + 1) by omega]
    rfl
theorem s_wV_ag {nE nH : Nat} {v : s_V} (h : s_wV nE nH v = true) (hE : ∀ i, i < nE → σ' i = σ i) (hH : ∀ i, i < nH → ρ' i = ρ i) : s_cv σ' ρ' b v = s_cv σ ρ b v := by
  obtain ⟨t, n⟩ := v
  match t, h with
  | 0, _ => rfl
  | 1, _ => rfl
  | 2, h => simp only [s_cv]; rw [hE _ (by simpa [s_wV, Nat.blt_eq] using h)]
  | 3, h => simp only [s_cv]; rw [hE _ (by simpa [s_wV, Nat.blt_eq] using h)]
  | 4, _ => rfl
  | 5, h => simp only [s_cv]; rw [hH _ (by simpa [s_wV, Nat.blt_eq] using h)]
  | t + 6, _ => rfl
theorem s_wL_ag {nE nH : Nat} {L : s_L} (h : s_wL nE nH L = true) (hE : ∀ i, i < nE → σ' i = σ i) (hH : ∀ i, i < nH → ρ' i = ρ i) : s_cL σ' ρ' b L = s_cL σ ρ b L := by
  unfold s_cL
  apply List.map_congr_left
  intro q hq
  rw [s_wV_ag (List.all_eq_true.mp h q hq) hE hH]
theorem s_wS_ag {nE nH : Nat} {st : List s_V} (h : st.all (s_wV nE nH) = true) (hE : ∀ i, i < nE → σ' i = σ i) (hH : ∀ i, i < nH → ρ' i = ρ i) : st.map (s_cv σ' ρ' b) = st.map (s_cv σ ρ b) := by
  apply List.map_congr_left
  intro q hq
  rw [s_wV_ag (List.all_eq_true.mp h q hq) hE hH]
theorem s_lk_in (l : List (Nat × s_V)) (j : Nat) (d : s_V) : s_lk l j d = d ∨ ∃ q ∈ l, s_lk l j d = q.2 := by
  induction l with
  | nil => exact Or.inl rfl
  | cons q t ih =>
    obtain ⟨i, u⟩ := q
    simp only [s_lk]
    cases Nat.beq i j
    · simp only [cond_false]
      rcases ih with h | ⟨q, h1, h2⟩
      · exact Or.inl h
      · exact Or.inr ⟨q, List.mem_cons_of_mem _ h1, h2⟩
    · exact Or.inr ⟨(i, u), List.mem_cons_self, rfl⟩
theorem s_wC_ag {nE nH : Nat} {c : s_C} (h : (s_wV nE nH c.2.2.2.1 && s_wL nE nH c.2.2.2.2) = true) (hE : ∀ i, i < nE → σ' i = σ i) (hH : ∀ i, i < nH → ρ' i = ρ i) : s_cc σ' ρ' b c = s_cc σ ρ b c := by
  rw [Bool.and_eq_true] at h
  unfold s_cc
  congr 3
  funext j
  rcases s_lk_in c.2.2.2.2 j c.2.2.2.1 with h1 | ⟨q, h1, h2⟩
  · rw [h1]; exact s_wV_ag h.1 hE hH
  · rw [h2]; exact s_wV_ag (List.all_eq_true.mp h.2 q h1) hE hH
theorem s_ch_ag {nE nH : Nat} (H : List s_C) : ∀ (i : Nat), (H.all (fun c => s_wV nE nH c.2.2.2.1 && s_wL nE nH c.2.2.2.2)) = true → i + H.length ≤ nH → (∀ i, i < nE → σ' i = σ i) → (∀ i, i < nH → ρ' i = ρ i) → s_ch σ' ρ' b i H = s_ch σ ρ b i H := by
  induction H with
  | nil => intro i _ _ _ _; rfl
  | cons c t ih =>
    intro i h hl hE hH
    rw [List.all_cons, Bool.and_eq_true] at h
    have hl' : i + (t.length + 1) ≤ nH := hl
    show (ρ' i, s_cc σ' ρ' b c) :: s_ch σ' ρ' b (i + 1) t = (ρ i, s_cc σ ρ b c) :: s_ch σ ρ b (i + 1) t
    rw [ih (i + 1) h.2 (by omega) hE hH, s_wC_ag h.1 hE hH, hH i (by omega)]
theorem s_cat (v : s_V) : (s_cv σ ρ b v).category = if s_c2 v = true then 2 else 1 := by
  obtain ⟨t, n⟩ := v
  match t with
  | 0 => rfl
  | 1 => rfl
  | 2 => rfl
  | 3 => rfl
  | 4 => rfl
  | 5 => rfl
  | t + 6 => simp [s_cv, s_c2, Value.category, s_beq]
theorem s_cat2 (v : s_V) : ((s_cv σ ρ b v).category == 2) = s_c2 v := by
  rw [s_cat]
  cases s_c2 v <;> rfl
theorem s_tk_0 {v : s_V} (h : s_tk 0 v = true) : ∃ x, s_cv σ ρ b v = .int x := by
  obtain ⟨t, n⟩ := v
  match t, h with
  | 0, _ => exact ⟨_, rfl⟩
  | 2, _ => exact ⟨_, rfl⟩
theorem s_tk_1 {v : s_V} (h : s_tk 1 v = true) : ∃ x, s_cv σ ρ b v = .long x := by
  obtain ⟨t, n⟩ := v
  match t, h with
  | 1, _ => exact ⟨_, rfl⟩
  | 3, _ => exact ⟨_, rfl⟩
theorem s_tk_2 {v : s_V} (h : s_tk 2 v = true) : s_cv σ ρ b v = .null ∨ ∃ x, s_cv σ ρ b v = .ref x := by
  obtain ⟨t, n⟩ := v
  match t, h with
  | 4, _ => exact Or.inl rfl
  | 5, _ => exact Or.inr ⟨_, rfl⟩
  | t + 6, _ => exact Or.inr ⟨_, rfl⟩
theorem s_tk_4 {v : s_V} (h : s_tk 4 v = true) : s_cv σ ρ b v = .null ∨ ∃ x, s_cv σ ρ b v = .ref x := by
  obtain ⟨t, n⟩ := v
  match t, h with
  | 4, _ => exact Or.inl rfl
  | 5, _ => exact Or.inr ⟨_, rfl⟩
theorem s_find_in {L : s_L} {i : Nat} {v : s_V} (h : s_find L i = some v) : (i, s_cv σ ρ b v) ∈ s_cL σ ρ b L := by
  induction L with
  | nil => cases h
  | cons q t ih =>
    obtain ⟨j, u⟩ := q
    simp only [s_find] at h
    by_cases e : j = i
    · subst e
      rw [s_beq, beq_self_eq_true, cond_true] at h
      cases h
      exact List.mem_cons_self
    · have e1 : Nat.beq j i = false := by rw [s_beq]; simpa using e
      rw [e1, cond_false] at h
      exact List.mem_cons_of_mem _ (ih h)
theorem s_st1_eq (i : Nat) (v : s_V) (L : s_L) : s_cL σ ρ b ((i, v) :: L.filter (fun q => !(q.1 == i) && !(q.1 + 1 == i && s_c2 q.2))) = g_st1 i (s_cv σ ρ b v) (s_cL σ ρ b L) := by
  unfold s_cL g_st1
  rw [List.map_cons, List.filter_map]
  congr 2
  apply List.filter_congr
  intro q _
  simp only [Function.comp, s_cat2]
theorem s_st2_eq (i : Nat) (v : s_V) (L : s_L) : s_cL σ ρ b ((i, v) :: L.filter (fun q => !(q.1 == i) && (!(q.1 == i + 1) && !(q.1 + 1 == i && s_c2 q.2)))) = g_st2 i (s_cv σ ρ b v) (s_cL σ ρ b L) := by
  unfold s_cL g_st2
  rw [List.map_cons, List.filter_map]
  congr 2
  apply List.filter_congr
  intro q _
  simp only [Function.comp, s_cat2]
theorem s_sum_eq (st : List s_V) : g_sum (st.map (s_cv σ ρ b)) = s_sum st := by
  induction st with
  | nil => rfl
  | cons v t ih =>
    show (s_cv σ ρ b v).category + g_sum (t.map (s_cv σ ρ b)) = _
    rw [ih, s_cat]
    simp only [s_sum]
    cases s_c2 v <;> rfl
theorem s_iz (x : Int32) : Int32.ofInt x.toInt = x := Int32.ofInt_toInt x
theorem s_lz (x : Int64) : Int64.ofInt x.toInt = x := Int64.ofInt_toInt x
theorem s_to32 {n : Int} (h : s_in32 n = true) : (Int32.ofInt n).toInt = n := by
  simp only [s_in32, Bool.and_eq_true, decide_eq_true_eq] at h
  exact Int32.toInt_ofInt_of_le (by omega) (by omega)
theorem s_to64 {n : Int} (h : s_in64 n = true) : (Int64.ofInt n).toInt = n := by
  simp only [s_in64, Bool.and_eq_true, decide_eq_true_eq] at h
  exact Int64.toInt_ofInt_of_le (by omega) (by omega)
end S20
section S21
variable {xs : Nat → Int} {σ : Nat → Int} {ρ : Nat → Nat} {b : Nat} {M : s_M}
theorem s_kE_eq (hok : s_ok xs σ M) {k : Nat} {n : Int} (h : s_kE M.1 k = some n) : σ k = n := by
  unfold s_kE at h
  split at h
  next r e =>
    have h1 := hok.1 _ _ e
    by_cases e2 : r.1 = r.2
    · simp only [e2, decide_true, cond_true, Option.some.injEq] at h
      omega
    · simp only [e2, decide_false, cond_false, reduceCtorEq] at h
  next => cases h
theorem s_k_eq (hok : s_ok xs σ M) {v : s_V} {n : Int} (h : s_k M.1 v = some n) : s_cv σ ρ b v = .int (Int32.ofInt n) := by
  obtain ⟨t, m⟩ := v
  unfold s_k at h
  match t, h with
  | 0, h => cases h; rfl
  | 1, h => cases h
  | 2, h => simp only [s_cv]; rw [s_kE_eq hok h]
  | t + 3, h => simp [s_beq] at h
theorem s_kl_eq (hok : s_ok xs σ M) {v : s_V} {n : Int} (h : s_kl M.1 v = some n) : s_cv σ ρ b v = .long (Int64.ofInt n) := by
  obtain ⟨t, m⟩ := v
  unfold s_kl at h
  match t, h with
  | 0, h => cases h
  | 1, h => cases h; rfl
  | 2, h => cases h
  | 3, h => simp only [s_cv]; rw [s_kE_eq hok h]
  | t + 4, h => simp [s_beq] at h
/-- a value with bounds -/
theorem s_iv_eq (hok : s_ok xs σ M) {v : s_V} {r : Int × Int} (h : s_iv M.1 v = some r) : ∃ x : Int32, s_cv σ ρ b v = .int x ∧ r.1 ≤ x.toInt ∧ x.toInt ≤ r.2 ∧ (v.1 = 2 → σ v.2.toNat = x.toInt) ∧ (v.1 = 0 ∨ v.1 = 2) := by
  obtain ⟨t, m⟩ := v
  unfold s_iv at h
  match t, h with
  | 0, h =>
    simp only at h
    cases e : s_in32 m
    · rw [e] at h; cases h
    · rw [e] at h
      cases h
      exact ⟨_, rfl, by rw [s_to32 e]; omega, by rw [s_to32 e]; omega, (fun h => by cases h), Or.inl rfl⟩
  | 2, h =>
    simp only at h
    split at h
    next r' e =>
      cases e2 : (s_in32 r'.1 && s_in32 r'.2)
      · rw [e2] at h; cases h
      · rw [e2] at h
        cases h
        have h1 := hok.1 _ _ e
        rw [Bool.and_eq_true] at e2
        have h2 : s_in32 (σ m.toNat) = true := by
          simp only [s_in32, Bool.and_eq_true, decide_eq_true_eq] at e2 ⊢
          omega
        exact ⟨_, rfl, by rw [s_to32 h2]; exact h1.1, by rw [s_to32 h2]; exact h1.2, fun _ => (s_to32 h2).symm, Or.inr rfl⟩
    next => cases h
theorem s_ivl_eq (hok : s_ok xs σ M) {v : s_V} {r : Int × Int} (h : s_ivl M.1 v = some r) : ∃ x : Int64, s_cv σ ρ b v = .long x ∧ r.1 ≤ x.toInt ∧ x.toInt ≤ r.2 ∧ (v.1 = 3 → σ v.2.toNat = x.toInt) ∧ (v.1 = 1 ∨ v.1 = 3) := by
  obtain ⟨t, m⟩ := v
  unfold s_ivl at h
  match t, h with
  | 1, h =>
    simp only at h
    cases e : s_in64 m
    · rw [e] at h; cases h
    · rw [e] at h
      cases h
      exact ⟨_, rfl, by rw [s_to64 e]; omega, by rw [s_to64 e]; omega, (fun h => by cases h), Or.inl rfl⟩
  | 3, h =>
    simp only at h
    split at h
    next r' e =>
      cases e2 : (s_in64 r'.1 && s_in64 r'.2)
      · rw [e2] at h; cases h
      · rw [e2] at h
        cases h
        have h1 := hok.1 _ _ e
        rw [Bool.and_eq_true] at e2
        have h2 : s_in64 (σ m.toNat) = true := by
          simp only [s_in64, Bool.and_eq_true, decide_eq_true_eq] at e2 ⊢
          omega
        exact ⟨_, rfl, by rw [s_to64 h2]; exact h1.1, by rw [s_to64 h2]; exact h1.2, fun _ => (s_to64 h2).symm, Or.inr rfl⟩
    next => cases h
/-- comparing: x, y the numbers; of variables they are σ's -/
theorem s_lt_eq (hR : ∀ q ∈ M.2.1, σ q.1 + q.2.2 ≤ σ q.2.1) {ia ib : Int × Int} {a c : s_V} {x y : Int} (ha : ia.1 ≤ x ∧ x ≤ ia.2) (hb : ib.1 ≤ y ∧ y ≤ ib.2) (hx : s_isv a = true → σ a.2.toNat = x) (hy : s_isv c = true → σ c.2.toNat = y) :
    (s_lt M.2.1 ia ib a c = 1 → x < y) ∧ (s_lt M.2.1 ia ib a c = 0 → ¬ x < y) := by
  unfold s_lt
  by_cases h1 : ia.2 < ib.1
  · simp only [h1, decide_true, cond_true]
    exact ⟨fun _ => by omega, (fun h => by cases h)⟩
  · simp only [h1, decide_false, cond_false]
    by_cases h2 : ib.2 ≤ ia.1
    · simp only [h2, decide_true, cond_true]
      exact ⟨(fun h => by cases h), fun _ => by omega⟩
    · simp only [h2, decide_false, cond_false]
      cases h3 : s_isv a && s_isv c
      · simp only [cond_false]
        exact ⟨(fun h => by cases h), (fun h => by cases h)⟩
      · simp only [cond_true]
        rw [Bool.and_eq_true] at h3
        have hx' := hx h3.1
        have hy' := hy h3.2
        cases h4 : M.2.1.any (fun q => Nat.beq q.1 a.2.toNat && (Nat.beq q.2.1 c.2.toNat && decide (1 ≤ q.2.2)))
        · simp only [cond_false]
          cases h5 : M.2.1.any (fun q => Nat.beq q.1 c.2.toNat && (Nat.beq q.2.1 a.2.toNat && decide (0 ≤ q.2.2)))
          · simp only [cond_false]
            exact ⟨(fun h => by cases h), (fun h => by cases h)⟩
          · simp only [cond_true]
            refine ⟨(fun h => by cases h), fun _ => ?_⟩
            obtain ⟨q, hq, e⟩ := List.any_eq_true.mp h5
            simp only [Bool.and_eq_true, decide_eq_true_eq, Nat.beq_eq] at e
            have := hR q hq
            rw [e.1, e.2.1] at this
            omega
        · simp only [cond_true]
          refine ⟨fun _ => ?_, (fun h => by cases h)⟩
          obtain ⟨q, hq, e⟩ := List.any_eq_true.mp h4
          simp only [Bool.and_eq_true, decide_eq_true_eq, Nat.beq_eq] at e
          have := hR q hq
          rw [e.1, e.2.1] at this
          omega
theorem s_eq_eq {ia ib : Int × Int} {a c : s_V} {x y : Int} (ha : ia.1 ≤ x ∧ x ≤ ia.2) (hb : ib.1 ≤ y ∧ y ≤ ib.2) (hx : s_isv a = true → σ a.2.toNat = x) (hy : s_isv c = true → σ c.2.toNat = y) :
    (s_eq ia ib a c = 1 → x = y) ∧ (s_eq ia ib a c = 0 → ¬ x = y) := by
  unfold s_eq
  by_cases h1 : ia.2 < ib.1 ∨ ib.2 < ia.1
  · have : (decide (ia.2 < ib.1) || decide (ib.2 < ia.1)) = true := by simpa using h1
    simp only [this, cond_true]
    exact ⟨(fun h => by cases h), fun _ => by omega⟩
  · have : (decide (ia.2 < ib.1) || decide (ib.2 < ia.1)) = false := by simpa using h1
    simp only [this, cond_false]
    by_cases h2 : ia.1 = ia.2 ∧ ib.1 = ib.2
    · have : (decide (ia.1 = ia.2) && decide (ib.1 = ib.2)) = true := by simpa using h2
      simp only [this, cond_true]
      by_cases h3 : ia.1 = ib.1
      · simp only [h3, decide_true, cond_true]
        exact ⟨fun _ => by omega, (fun h => by cases h)⟩
      · simp only [h3, decide_false, cond_false]
        exact ⟨(fun h => by cases h), fun _ => by omega⟩
    · have : (decide (ia.1 = ia.2) && decide (ib.1 = ib.2)) = false := by
        cases e : (decide (ia.1 = ia.2) && decide (ib.1 = ib.2))
        · rfl
        · exact absurd (by simpa using e) h2
      simp only [this, cond_false]
      cases h4 : s_isv a && s_isv c && Nat.beq a.2.toNat c.2.toNat
      · simp only [cond_false]
        exact ⟨(fun h => by cases h), (fun h => by cases h)⟩
      · simp only [cond_true]
        simp only [Bool.and_eq_true, Nat.beq_eq] at h4
        refine ⟨fun _ => ?_, (fun h => by cases h)⟩
        rw [← hx h4.1.1, ← hy h4.1.2, h4.2]
theorem s_not_eq {k : Nat} : (s_not k = 1 → k = 0) ∧ (s_not k = 0 → k = 1) := by
  match k with
  | 0 => exact ⟨fun _ => rfl, (fun h => by cases h)⟩
  | 1 => exact ⟨(fun h => by cases h), fun _ => rfl⟩
  | k + 2 => exact ⟨(fun h => by cases h), (fun h => by cases h)⟩
theorem s_cond_eq (hR : ∀ q ∈ M.2.1, σ q.1 + q.2.2 ≤ σ q.2.1) {ia ib : Int × Int} {a c : s_V} {x y : Int32} (cd : ClassFile.Cond) (ha : ia.1 ≤ x.toInt ∧ x.toInt ≤ ia.2) (hb : ib.1 ≤ y.toInt ∧ y.toInt ≤ ib.2) (hx : s_isv a = true → σ a.2.toNat = x.toInt) (hy : s_isv c = true → σ c.2.toNat = y.toInt) :
    (s_cond M.2.1 ia ib a c (s_cdn cd) = 1 → g_c2 x y cd = true) ∧ (s_cond M.2.1 ia ib a c (s_cdn cd) = 0 → g_c2 x y cd = false) := by
  have e1 := s_eq_eq ha hb hx hy
  have l1 := s_lt_eq hR ha hb hx hy
  have l2 := s_lt_eq hR hb ha hy hx
  cases cd <;> simp only [s_cond, s_cdn, g_c2, decide_eq_true_eq, decide_eq_false_iff_not] <;> simp only [Nat.blt, Nat.ble, Nat.beq, cond_true, cond_false]
  · exact ⟨fun h => Int32.toInt_inj.mp (e1.1 h), fun h h2 => e1.2 h (by rw [h2])⟩
  · exact ⟨fun h h2 => e1.2 (s_not_eq.1 h) (by rw [h2]), fun h h2 => h2 (Int32.toInt_inj.mp (e1.1 (s_not_eq.2 h)))⟩
  · exact ⟨fun h => Int32.lt_iff_toInt_lt.mpr (l1.1 h), fun h h2 => l1.2 h (Int32.lt_iff_toInt_lt.mp h2)⟩
  · exact ⟨fun h => Int32.le_iff_toInt_le.mpr (by have := l1.2 (s_not_eq.1 h); omega), fun h h2 => by have := l1.1 (s_not_eq.2 h); have := Int32.le_iff_toInt_le.mp h2; omega⟩
  · exact ⟨fun h => Int32.lt_iff_toInt_lt.mpr (l2.1 h), fun h h2 => l2.2 h (Int32.lt_iff_toInt_lt.mp h2)⟩
  · exact ⟨fun h => Int32.le_iff_toInt_le.mpr (by have := l2.2 (s_not_eq.1 h); omega), fun h h2 => by have := l2.1 (s_not_eq.2 h); have := Int32.le_iff_toInt_le.mp h2; omega⟩
theorem s_c1_c2 (x : Int32) (cd : ClassFile.Cond) : g_c1 x cd = g_c2 x 0 cd := by cases cd <;> rfl
end S21
end
section
-- the steps of the machine over bounds are the plain machine's: constants, locals, stack, arithmetic
theorem s_bif {α : Type} {c : Bool} {x : Option α} {y : α} (h : (bif c then x else none) = some y) : c = true ∧ x = some y := by
  cases c
  · cases h
  · exact ⟨rfl, h⟩
theorem s_bifn {α : Type} {c : Bool} {x : Option α} {y : α} (h : (bif c then none else x) = some y) : c = false ∧ x = some y := by
  cases c
  · exact ⟨rfl, h⟩
  · cases h
def s_hP (P : g_S → Prop) (xs : Nat → Int) (b : Nat) (σ : Nat → Int) (ρ : Nat → Nat) (M : s_M) (X' : s_X) : Prop :=
  ∀ (σ' : Nat → Int) (ρ' : Nat → Nat), (∀ i, i < M.1.length → σ' i = σ i) → (∀ i, i < M.2.2.2.length → ρ' i = ρ i) → s_ok xs σ' X'.2.2.2.2.2 → P (s_cX σ' ρ' b X')
theorem s_con_g {ins : Instr} {v : s_V} {σ : Nat → Int} {ρ : Nat → Nat} {b : Nat} (h : s_conI ins = some v) : g_con ins = some (s_len ins, s_cv σ ρ b v) := by
  cases ins <;> simp only [s_conI, reduceCtorEq, Option.some.injEq] at h <;> subst h
  · rfl
  · simp only [g_con, s_len, s_cv, s_iz]
  · rfl
  · rfl
  · simp only [g_con, s_len, s_cv, s_iz]
theorem s_ld_g {ins : Instr} {a k : Nat} (h : s_ldI ins = some (a, k)) : ∃ p, g_load ins = some (a, s_len ins, p) ∧ ∀ (σ : Nat → Int) (ρ : Nat → Nat) (b : Nat) (v : s_V), s_tk k v = true → p (s_cv σ ρ b v) = true := by
  cases ins <;> simp only [s_ldI, reduceCtorEq, Option.some.injEq, Prod.mk.injEq] at h <;> obtain ⟨rfl, rfl⟩ := h <;> refine ⟨_, rfl, fun σ ρ b v hv => ?_⟩
  · rcases s_tk_2 (σ := σ) (ρ := ρ) (b := b) hv with e | ⟨x, e⟩ <;> rw [e]
  · rcases s_tk_2 (σ := σ) (ρ := ρ) (b := b) hv with e | ⟨x, e⟩ <;> rw [e]
  · obtain ⟨x, e⟩ := s_tk_0 (σ := σ) (ρ := ρ) (b := b) hv; rw [e]
  · obtain ⟨x, e⟩ := s_tk_0 (σ := σ) (ρ := ρ) (b := b) hv; rw [e]
  · obtain ⟨x, e⟩ := s_tk_1 (σ := σ) (ρ := ρ) (b := b) hv; rw [e]
  · obtain ⟨x, e⟩ := s_tk_1 (σ := σ) (ρ := ρ) (b := b) hv; rw [e]
theorem s_st_g {ins : Instr} {a k : Nat} {w : Bool} (h : s_stI ins = some (a, w, k)) : ∃ p, g_stor ins = some (a, s_len ins, w, p) ∧ ∀ (σ : Nat → Int) (ρ : Nat → Nat) (b : Nat) (v : s_V), s_tk k v = true → p (s_cv σ ρ b v) = true := by
  cases ins <;> simp only [s_stI, reduceCtorEq, Option.some.injEq, Prod.mk.injEq] at h <;> obtain ⟨rfl, rfl, rfl⟩ := h <;> refine ⟨_, rfl, fun σ ρ b v hv => ?_⟩
  · rcases s_tk_2 (σ := σ) (ρ := ρ) (b := b) hv with e | ⟨x, e⟩ <;> rw [e]
  · rcases s_tk_2 (σ := σ) (ρ := ρ) (b := b) hv with e | ⟨x, e⟩ <;> rw [e]
  · obtain ⟨x, e⟩ := s_tk_0 (σ := σ) (ρ := ρ) (b := b) hv; rw [e]
  · obtain ⟨x, e⟩ := s_tk_0 (σ := σ) (ρ := ρ) (b := b) hv; rw [e]
  · obtain ⟨x, e⟩ := s_tk_1 (σ := σ) (ρ := ρ) (b := b) hv; rw [e]
  · obtain ⟨x, e⟩ := s_tk_1 (σ := σ) (ρ := ρ) (b := b) hv; rw [e]
theorem s_ib_g {ins : Instr} {a : Nat} (h : s_ibn ins = some a) : g_ib ins = some (s_fib a) ∧ s_len ins = 1 := by
  cases ins <;> simp only [s_ibn, reduceCtorEq, Option.some.injEq] at h <;> subst h <;> exact ⟨rfl, rfl⟩
theorem s_id_g {ins : Instr} {a : Nat} (h : s_idn ins = some a) : g_id ins = some (s_fid a) ∧ s_len ins = 1 := by
  cases ins <;> simp only [s_idn, reduceCtorEq, Option.some.injEq] at h <;> subst h <;> exact ⟨rfl, rfl⟩
theorem s_iu_g {ins : Instr} {a : Nat} (h : s_iun ins = some a) : g_iu ins = some (s_fiu a) ∧ s_len ins = 1 := by
  cases ins <;> simp only [s_iun, reduceCtorEq, Option.some.injEq] at h <;> subst h <;> exact ⟨rfl, rfl⟩
theorem s_lb_g {ins : Instr} {a : Nat} (h : s_lbn ins = some a) : g_lb ins = some (s_flb a) ∧ s_len ins = 1 := by
  cases ins <;> simp only [s_lbn, reduceCtorEq, Option.some.injEq] at h <;> subst h <;> exact ⟨rfl, rfl⟩
theorem s_ldv_g {ins : Instr} {a : Nat} (h : s_ldn ins = some a) : g_ld ins = some (s_fld a) ∧ s_len ins = 1 := by
  cases ins <;> simp only [s_ldn, reduceCtorEq, Option.some.injEq] at h <;> subst h <;> exact ⟨rfl, rfl⟩
section S22
variable {P : g_S → Prop} {xs : Nat → Int} {σ : Nat → Int} {ρ : Nat → Nat} {b : Nat} {M : s_M} {CALL : Nat → List Value → g_H → Nat → Nat → (Option Value → g_H → Prop) → Prop} {cc : ByteArray} {o nL : Nat} {ini : Bool} {bc bs : Nat}
variable {t : List s_I} {L : s_L} {st : List s_V} {cn sn pc : Nat} {ins : Instr} {X' : s_X}
theorem s_stay {pc' : Nat} (hok : s_ok xs σ M) (hgo : s_pc t = pc') (hP : s_hP P xs b σ ρ M (t, L, st, cn, sn, M)) : P (pc', s_cL σ ρ b L, st.map (s_cv σ ρ b), cn, sn, s_ch σ ρ b 0 M.2.2.2) := by
  subst hgo
  exact hP σ ρ (fun _ _ => rfl) (fun _ _ => rfl) hok
/-- a new number z within bounds -/
theorem s_fresh_ok {lo hi z : Int} {B : s_B} {pc' : Nat} (hok : s_ok xs σ M) (hgo : s_pc t = pc') (hz : lo ≤ z ∧ z ≤ hi) (hB : B = M.2.2.1 ∨ ∃ i j, B = (i, j, M.1.length) :: M.2.2.1 ∧ i < M.1.length ∧ j < M.1.length ∧ z = σ i - σ j)
    (h : s_fresh t L st cn sn M lo hi B = some (.inr X')) (hP : s_hP P xs b σ ρ M X') : P (pc', s_cL σ ρ b L, Value.int (Int32.ofInt z) :: st.map (s_cv σ ρ b), cn, sn, s_ch σ ρ b 0 M.2.2.2) := by
  obtain ⟨E, R, B0, H⟩ := M
  subst hgo
  unfold s_fresh at h
  obtain ⟨h1, h⟩ := s_bif h
  simp only [s_fn_eq] at h
  cases h
  simp only [s_wf, s_wM, Bool.and_eq_true] at h1
  obtain ⟨h5, hwL, hwS, ⟨hwR, hwB⟩, hwH⟩ := h1
  have h5' : 5 ≤ E.length := Nat.le_of_ble_eq_true h5
  have hag : ∀ i, i < E.length → (fun i => if i = E.length then z else σ i) i = σ i := fun i hi => if_neg (by omega)
  have key := hP (fun i => if i = E.length then z else σ i) ρ hag (fun _ _ => rfl) ?_
  · have e1 : s_cL (fun i => if i = E.length then z else σ i) ρ b L = s_cL σ ρ b L := s_wL_ag hwL hag (fun _ _ => rfl)
    have e2 : st.map (s_cv (fun i => if i = E.length then z else σ i) ρ b) = st.map (s_cv σ ρ b) := s_wS_ag hwS hag (fun _ _ => rfl)
    have e3 : s_ch (fun i => if i = E.length then z else σ i) ρ b 0 H = s_ch σ ρ b 0 H := s_ch_ag H 0 hwH (by omega) hag (fun _ _ => rfl)
    have e4 : s_cv (fun i => if i = E.length then z else σ i) ρ b (2, (E.length : Int)) = .int (Int32.ofInt z) := by
      simp only [s_cv, Int.toNat_natCast, if_true]
    have e5 : s_cX (fun i => if i = E.length then z else σ i) ρ b (t, L, (2, (E.length : Int)) :: st, cn, sn, (E ++ [(lo, hi)], R, B, H)) = (s_pc t, s_cL σ ρ b L, Value.int (Int32.ofInt z) :: st.map (s_cv σ ρ b), cn, sn, s_ch σ ρ b 0 H) := by
      show (s_pc t, s_cL _ ρ b L, s_cv _ ρ b (2, (E.length : Int)) :: st.map (s_cv _ ρ b), cn, sn, s_ch _ ρ b 0 H) = _
      rw [e1, e2, e3, e4]
    rw [e5] at key
    exact key
  · refine ⟨fun i r hix => ?_, fun q hq => ?_, fun q hq => ?_, fun i hi => ?_⟩
    · have hi' : (E ++ [(lo, hi)])[i]? = some r := hix
      by_cases hl : i < E.length
      · rw [List.getElem?_append_left hl] at hi'
        have := hok.1 i r hi'
        simp only [if_neg (show ¬ i = E.length by omega)]
        exact this
      · rw [List.getElem?_append_right (by omega)] at hi'
        have hz0 : i - E.length < 1 := (List.getElem?_eq_some_iff.mp hi').1
        have hiE : i = E.length := by omega
        subst hiE
        rw [Nat.sub_self] at hi'
        cases hi'
        simp only [if_true]
        exact hz
    · have := hok.2.1 q hq
      have hw := List.all_eq_true.mp hwR q hq
      simp only [Bool.and_eq_true, Nat.blt_eq] at hw
      simp only [if_neg (show ¬ q.1 = E.length by omega), if_neg (show ¬ q.2.1 = E.length by omega)]
      exact this
    · have old : ∀ q ∈ B0, (fun i => if i = E.length then z else σ i) q.2.2 = (fun i => if i = E.length then z else σ i) q.1 - (fun i => if i = E.length then z else σ i) q.2.1 := by
        intro q hq
        have := hok.2.2.1 q hq
        have hw := List.all_eq_true.mp hwB q hq
        simp only [Bool.and_eq_true, Nat.blt_eq] at hw
        simp only [if_neg (show ¬ q.1 = E.length by omega), if_neg (show ¬ q.2.1 = E.length by omega), if_neg (show ¬ q.2.2 = E.length by omega)]
        exact this
      rcases hB with rfl | ⟨i, j, rfl, hi, hj, hz2⟩
      · exact old q hq
      · rcases List.mem_cons.mp hq with rfl | hq
        · have hi' : i < E.length := hi
          have hj' : j < E.length := hj
          show (if E.length = E.length then z else σ E.length) = (if i = E.length then z else σ i) - (if j = E.length then z else σ j)
          rw [if_pos rfl, if_neg (show ¬ i = E.length by omega), if_neg (show ¬ j = E.length by omega)]
          exact hz2
        · exact old q hq
    · simp only [if_neg (show ¬ i = E.length by omega)]
      exact hok.2.2.2 i hi
theorem s_push_ok {v : s_V} {pc' : Nat} (hok : s_ok xs σ M) (hgo : s_pc t = pc') (h : s_push t L st cn sn M v = some (.inr X')) (hP : s_hP P xs b σ ρ M X') : P (pc', s_cL σ ρ b L, s_cv σ ρ b v :: st.map (s_cv σ ρ b), cn, sn, s_ch σ ρ b 0 M.2.2.2) := by
  rw [s_push, s_fv_eq] at h
  cases h
  exact s_stay (st := v :: st) hok hgo hP
theorem s_q0_ok (hcl : ∀ S, g_pre CALL o nL ini bc bs cc P S → P S) {v : s_V} (hok : s_ok xs σ M) (hd : decode cc pc = .ok (ins, s_len ins)) (hgo : s_pc t = pc + s_len ins) (hQ : s_conI ins = some v) (h : s_push t L st cn sn M v = some (.inr X')) (hP : s_hP P xs b σ ρ M X') : P (pc, s_cL σ ρ b L, st.map (s_cv σ ρ b), cn, sn, s_ch σ ρ b 0 M.2.2.2) :=
  hcl _ ⟨ins, _, hd, Or.inl (Or.inl ⟨_, s_con_g hQ, s_push_ok hok hgo h hP⟩)⟩
theorem s_q1_ok (hcl : ∀ S, g_pre CALL o nL ini bc bs cc P S → P S) {a k : Nat} (hok : s_ok xs σ M) (hd : decode cc pc = .ok (ins, s_len ins)) (hgo : s_pc t = pc + s_len ins) (hQ : s_ldI ins = some (a, k)) (h : s_q1 t L st cn sn M a k = some (.inr X')) (hP : s_hP P xs b σ ρ M X') : P (pc, s_cL σ ρ b L, st.map (s_cv σ ρ b), cn, sn, s_ch σ ρ b 0 M.2.2.2) := by
  unfold s_q1 at h
  split at h
  next v e =>
    obtain ⟨h1, h⟩ := s_bif h
    cases h
    obtain ⟨p, g1, g2⟩ := s_ld_g hQ
    exact hcl _ ⟨ins, _, hd, Or.inl (Or.inr (Or.inl ⟨_, _, _, g1, s_find_in e, g2 _ _ _ _ h1, s_stay (st := v :: st) hok hgo hP⟩))⟩
  next => cases h
theorem s_q2_ok (hcl : ∀ S, g_pre CALL o nL ini bc bs cc P S → P S) {a k : Nat} (hok : s_ok xs σ M) (hd : decode cc pc = .ok (ins, s_len ins)) (hgo : s_pc t = pc + s_len ins) (hQ : s_stI ins = some (a, false, k)) (h : s_q2 nL t L st cn sn M a k = some (.inr X')) (hP : s_hP P xs b σ ρ M X') : P (pc, s_cL σ ρ b L, st.map (s_cv σ ρ b), cn, sn, s_ch σ ρ b 0 M.2.2.2) := by
  unfold s_q2 at h
  split at h
  next v rest =>
    obtain ⟨h1, h⟩ := s_bif h
    rw [s_fil1_eq] at h
    cases h
    rw [Bool.and_eq_true, Nat.blt_eq] at h1
    obtain ⟨p, g1, g2⟩ := s_st_g hQ
    have k1 := s_stay hok hgo hP
    rw [s_st1_eq] at k1
    exact hcl _ ⟨ins, _, hd, Or.inl (Or.inr (Or.inr (Or.inl ⟨_, _, _, _, g1, rfl, g2 _ _ _ _ h1.1, h1.2, k1⟩)))⟩
  next => cases h
theorem s_q3_ok (hcl : ∀ S, g_pre CALL o nL ini bc bs cc P S → P S) {a k : Nat} (hok : s_ok xs σ M) (hd : decode cc pc = .ok (ins, s_len ins)) (hgo : s_pc t = pc + s_len ins) (hQ : s_stI ins = some (a, true, k)) (h : s_q3 nL t L st cn sn M a k = some (.inr X')) (hP : s_hP P xs b σ ρ M X') : P (pc, s_cL σ ρ b L, st.map (s_cv σ ρ b), cn, sn, s_ch σ ρ b 0 M.2.2.2) := by
  unfold s_q3 at h
  split at h
  next v rest =>
    obtain ⟨h1, h⟩ := s_bif h
    rw [s_fil2_eq] at h
    cases h
    rw [Bool.and_eq_true, Nat.blt_eq] at h1
    obtain ⟨p, g1, g2⟩ := s_st_g hQ
    have k1 := s_stay hok hgo hP
    rw [s_st2_eq] at k1
    exact hcl _ ⟨ins, _, hd, Or.inl (Or.inr (Or.inr (Or.inr (Or.inl ⟨_, _, _, _, g1, rfl, g2 _ _ _ _ h1.1, h1.2, k1⟩))))⟩
  next => cases h
theorem s_q4_ok (hcl : ∀ S, g_pre CALL o nL ini bc bs cc P S → P S) {a : Nat} {v : Int} (hok : s_ok xs σ M) (hd : decode cc pc = .ok (ins, s_len ins)) (hgo : s_pc t = pc + s_len ins) (hQ : ins = .iinc a v) (h : s_q4 nL t L st cn sn M a v = some (.inr X')) (hP : s_hP P xs b σ ρ M X') : P (pc, s_cL σ ρ b L, st.map (s_cv σ ρ b), cn, sn, s_ch σ ρ b 0 M.2.2.2) := by
  subst hQ
  unfold s_q4 at h
  split at h
  next u e =>
    split at h
    next x e2 =>
      obtain ⟨h1, h⟩ := s_bif h
      rw [s_fi_eq, s_fil1_eq] at h
      cases h
      have k1 := s_stay hok hgo hP
      rw [s_st1_eq] at k1
      simp only [s_cv, s_iz] at k1
      have e3 := s_find_in (σ := σ) (ρ := ρ) (b := b) e
      rw [s_k_eq hok e2] at e3
      exact hcl _ ⟨_, _, hd, Or.inl (Or.inr (Or.inr (Or.inr (Or.inr (Or.inl ⟨_, _, _, rfl, Or.inl rfl, e3, by rw [Nat.blt_eq] at h1; exact h1, k1⟩)))))⟩
    next => cases h
  next => cases h
theorem s_cat1 {v : s_V} (h : s_c2 v = false) : (s_cv σ ρ b v).category = 1 := by rw [s_cat, h]; rfl
theorem s_q5_ok (hcl : ∀ S, g_pre CALL o nL ini bc bs cc P S → P S) (hok : s_ok xs σ M) (hd : decode cc pc = .ok (ins, s_len ins)) (hgo : s_pc t = pc + s_len ins) (hQ : ins = .dup) (h : s_q5 t L st cn sn M = some (.inr X')) (hP : s_hP P xs b σ ρ M X') : P (pc, s_cL σ ρ b L, st.map (s_cv σ ρ b), cn, sn, s_ch σ ρ b 0 M.2.2.2) := by
  subst hQ
  unfold s_q5 at h
  split at h
  next v rest =>
    obtain ⟨h1, h⟩ := s_bifn h
    cases h
    exact hcl _ ⟨_, _, hd, Or.inl (Or.inr (Or.inr (Or.inr (Or.inr (Or.inr (Or.inl ⟨_, _, rfl, rfl, rfl, s_cat1 h1, s_stay (st := v :: v :: rest) hok hgo hP⟩))))))⟩
  next => cases h
theorem s_q6_ok (hcl : ∀ S, g_pre CALL o nL ini bc bs cc P S → P S) (hok : s_ok xs σ M) (hd : decode cc pc = .ok (ins, s_len ins)) (hgo : s_pc t = pc + s_len ins) (hQ : ins = .pop) (h : s_q6 t L st cn sn M = some (.inr X')) (hP : s_hP P xs b σ ρ M X') : P (pc, s_cL σ ρ b L, st.map (s_cv σ ρ b), cn, sn, s_ch σ ρ b 0 M.2.2.2) := by
  subst hQ
  unfold s_q6 at h
  split at h
  next v rest =>
    obtain ⟨h1, h⟩ := s_bifn h
    cases h
    exact hcl _ ⟨_, _, hd, Or.inl (Or.inr (Or.inr (Or.inr (Or.inr (Or.inr (Or.inr (Or.inl ⟨_, _, rfl, rfl, rfl, s_cat1 h1, s_stay hok hgo hP⟩)))))))⟩
  next => cases h
theorem s_q7_ok (hcl : ∀ S, g_pre CALL o nL ini bc bs cc P S → P S) (hok : s_ok xs σ M) (hd : decode cc pc = .ok (ins, s_len ins)) (hgo : s_pc t = pc + s_len ins) (hQ : ins = .dup_x1) (h : s_q7 t L st cn sn M = some (.inr X')) (hP : s_hP P xs b σ ρ M X') : P (pc, s_cL σ ρ b L, st.map (s_cv σ ρ b), cn, sn, s_ch σ ρ b 0 M.2.2.2) := by
  subst hQ
  unfold s_q7 at h
  split at h
  next v u rest =>
    obtain ⟨h1, h⟩ := s_bifn h
    cases h
    rw [Bool.or_eq_false_iff] at h1
    exact hcl _ ⟨_, _, hd, Or.inl (Or.inr (Or.inr (Or.inr (Or.inr (Or.inr (Or.inr (Or.inr (Or.inl ⟨_, _, _, rfl, rfl, rfl, s_cat1 h1.1, s_cat1 h1.2, s_stay (st := v :: u :: v :: rest) hok hgo hP⟩))))))))⟩
  next => cases h
theorem s_q8_ok (hcl : ∀ S, g_pre CALL o nL ini bc bs cc P S → P S) (hok : s_ok xs σ M) (hd : decode cc pc = .ok (ins, s_len ins)) (hgo : s_pc t = pc + s_len ins) (hQ : ins = .dup2) (h : s_q8 t L st cn sn M = some (.inr X')) (hP : s_hP P xs b σ ρ M X') : P (pc, s_cL σ ρ b L, st.map (s_cv σ ρ b), cn, sn, s_ch σ ρ b 0 M.2.2.2) := by
  subst hQ
  unfold s_q8 at h
  split at h
  next v u rest =>
    cases hv : s_c2 v
    · rw [hv, cond_false] at h
      obtain ⟨h1, h⟩ := s_bifn h
      cases h
      exact hcl _ ⟨_, _, hd, Or.inl (Or.inr (Or.inr (Or.inr (Or.inr (Or.inr (Or.inr (Or.inr (Or.inr (Or.inl ⟨_, _, _, rfl, rfl, rfl, s_cat1 hv, s_cat1 h1, s_stay (st := v :: u :: v :: u :: rest) hok hgo hP⟩)))))))))⟩
    · rw [hv, cond_true] at h
      cases h
      exact hcl _ ⟨_, _, hd, Or.inl (Or.inr (Or.inr (Or.inr (Or.inr (Or.inr (Or.inr (Or.inr (Or.inr (Or.inr (Or.inl ⟨_, _, rfl, rfl, rfl, by rw [s_cat, hv]; rfl, s_stay (st := v :: v :: u :: rest) hok hgo hP⟩))))))))))⟩
  next => cases h
/-- an entry of the pool is as the tables have it -/
def s_lkd (o i kd a b : Nat) (v : Int) : Prop := ∃ ps, (o, i, kd, a, b, v, ps) ∈ g_lk
theorem s_q9_ok (hcl : ∀ S, g_pre CALL o nL ini bc bs cc P S → P S) {i kd a b0 : Nat} {v : Int} (hok : s_ok xs σ M) (hd : decode cc pc = .ok (ins, s_len ins)) (hgo : s_pc t = pc + s_len ins) (hQ : ins = .ldc i ∨ ins = .ldc_w i) (hlk : s_lkd o i kd a b0 v) (hk : kd = 10) (h : (some (.inr (t, L, (0, v) :: st, cn, sn, M)) : Option s_O) = some (.inr X')) (hP : s_hP P xs b σ ρ M X') : P (pc, s_cL σ ρ b L, st.map (s_cv σ ρ b), cn, sn, s_ch σ ρ b 0 M.2.2.2) := by
  cases h
  subst hk
  obtain ⟨ps, hlk⟩ := hlk
  have k1 := s_stay (st := (0, v) :: st) hok hgo hP
  rcases hQ with rfl | rfl
  · exact hcl _ ⟨_, _, hd, Or.inl (Or.inr (Or.inr (Or.inr (Or.inr (Or.inr (Or.inr (Or.inr (Or.inr (Or.inr (Or.inr (Or.inl ⟨_, _, _, _, _, _, rfl, hlk, k1⟩)))))))))))⟩
  · exact hcl _ ⟨_, _, hd, Or.inl (Or.inr (Or.inr (Or.inr (Or.inr (Or.inr (Or.inr (Or.inr (Or.inr (Or.inr (Or.inr (Or.inl ⟨_, _, _, _, _, _, rfl, hlk, k1⟩)))))))))))⟩
theorem s_q10_ok (hcl : ∀ S, g_pre CALL o nL ini bc bs cc P S → P S) {i kd a b0 : Nat} {v : Int} (hok : s_ok xs σ M) (hd : decode cc pc = .ok (ins, s_len ins)) (hgo : s_pc t = pc + s_len ins) (hQ : ins = .ldc2_w i) (hlk : s_lkd o i kd a b0 v) (hk : kd = 11) (h : (some (.inr (t, L, (1, v) :: st, cn, sn, M)) : Option s_O) = some (.inr X')) (hP : s_hP P xs b σ ρ M X') : P (pc, s_cL σ ρ b L, st.map (s_cv σ ρ b), cn, sn, s_ch σ ρ b 0 M.2.2.2) := by
  cases h
  subst hk hQ
  obtain ⟨ps, hlk⟩ := hlk
  have k1 := s_stay (st := (1, v) :: st) hok hgo hP
  exact hcl _ ⟨_, _, hd, Or.inl (Or.inr (Or.inr (Or.inr (Or.inr (Or.inr (Or.inr (Or.inr (Or.inr (Or.inr (Or.inr (Or.inr ⟨_, _, _, _, _, _, rfl, rfl, Or.inl rfl, hlk, k1⟩)))))))))))⟩
theorem s_q11_ok (hcl : ∀ S, g_pre CALL o nL ini bc bs cc P S → P S) {a : Nat} (hok : s_ok xs σ M) (hd : decode cc pc = .ok (ins, s_len ins)) (hgo : s_pc t = pc + s_len ins) (hQ : s_ibn ins = some a) (h : s_q11 t L st cn sn M a = some (.inr X')) (hP : s_hP P xs b σ ρ M X') : P (pc, s_cL σ ρ b L, st.map (s_cv σ ρ b), cn, sn, s_ch σ ρ b 0 M.2.2.2) := by
  obtain ⟨g1, g2⟩ := s_ib_g hQ
  rw [g2] at hgo
  have fin : ∀ (x y : s_V) (rest : List s_V) (m n : Int32), s_cv σ ρ b x = .int m → s_cv σ ρ b y = .int n → P (pc + 1, s_cL σ ρ b L, Value.int (s_fib a m n) :: rest.map (s_cv σ ρ b), cn, sn, s_ch σ ρ b 0 M.2.2.2) → P (pc, s_cL σ ρ b L, (y :: x :: rest).map (s_cv σ ρ b), cn, sn, s_ch σ ρ b 0 M.2.2.2) := by
    intro x y rest m n ex ey k1
    refine hcl _ ⟨ins, _, hd, Or.inr (Or.inl (Or.inl ⟨_, m, n, rest.map (s_cv σ ρ b), g1, g2, ?_, k1⟩))⟩
    show s_cv σ ρ b y :: s_cv σ ρ b x :: _ = _
    rw [ex, ey]
  unfold s_q11 at h
  split at h
  next y x rest =>
    split at h
    next m n e1 e2 =>
      have k1 := s_push_ok (ρ := ρ) (P := P) (b := b) hok hgo h hP
      simp only [s_cv, s_iz] at k1
      exact fin x y rest _ _ (s_k_eq hok e1) (s_k_eq hok e2) k1
    next =>
      cases e3 : (Nat.beq a 1 && (Nat.beq x.1 2 && Nat.beq y.1 2))
      · rw [e3, cond_false] at h
        obtain ⟨h1, h⟩ := s_bif h
        rw [Bool.and_eq_true] at h1
        obtain ⟨m, em⟩ := s_tk_0 (σ := σ) (ρ := ρ) (b := b) h1.1
        obtain ⟨n, en⟩ := s_tk_0 (σ := σ) (ρ := ρ) (b := b) h1.2
        have k1 := s_fresh_ok (z := (s_fib a m n).toInt) hok hgo ⟨by have := Int32.le_toInt (s_fib a m n); omega, by have := Int32.toInt_lt (s_fib a m n); omega⟩ (Or.inl rfl) h hP
        rw [s_iz] at k1
        exact fin x y rest m n em en k1
      · rw [e3, cond_true] at h
        simp only [Bool.and_eq_true, Nat.beq_eq] at e3
        obtain ⟨ea, ex, ey⟩ := e3
        subst ea
        have hx : s_cv σ ρ b x = .int (Int32.ofInt (σ x.2.toNat)) := by obtain ⟨tx, nx⟩ := x; have ex' : tx = 2 := ex; subst ex'; rfl
        have hy : s_cv σ ρ b y = .int (Int32.ofInt (σ y.2.toNat)) := by obtain ⟨ty, ny⟩ := y; have ey' : ty = 2 := ey; subst ey'; rfl
        refine fin x y rest _ _ hx hy ?_
        show P (pc + 1, s_cL σ ρ b L, Value.int (Int32.ofInt (σ x.2.toNat) - Int32.ofInt (σ y.2.toNat)) :: rest.map (s_cv σ ρ b), cn, sn, s_ch σ ρ b 0 M.2.2.2)
        rw [← Int32.ofInt_sub]
        unfold s_q11v at h
        split at h
        next q e4 =>
          cases h
          have hm := List.mem_of_find?_eq_some e4
          have hp := List.find?_some e4
          simp only [Bool.and_eq_true, Nat.beq_eq] at hp
          have hB := hok.2.2.1 q hm
          rw [hp.1, hp.2] at hB
          have k1 := s_stay (st := (2, (q.2.2 : Int)) :: rest) hok hgo hP
          simp only [List.map_cons, s_cv, Int.toNat_natCast, hB] at k1
          exact k1
        next =>
          split at h
          next ix iy e5 e6 =>
            simp only [s_fi_eq, s_fn_eq] at h
            have b1 := hok.1 _ _ e5
            have b2 := hok.1 _ _ e6
            exact s_fresh_ok (z := σ x.2.toNat - σ y.2.toNat) hok hgo ⟨by omega, by omega⟩ (Or.inr ⟨_, _, rfl, (List.getElem?_eq_some_iff.mp e5).1, (List.getElem?_eq_some_iff.mp e6).1, rfl⟩) h hP
          next => cases h
  next => cases h
theorem s_q12_ok (hcl : ∀ S, g_pre CALL o nL ini bc bs cc P S → P S) {a : Nat} (hok : s_ok xs σ M) (hd : decode cc pc = .ok (ins, s_len ins)) (hgo : s_pc t = pc + s_len ins) (hQ : s_idn ins = some a) (h : s_q12 t L st cn sn M a = some (.inr X')) (hP : s_hP P xs b σ ρ M X') : P (pc, s_cL σ ρ b L, st.map (s_cv σ ρ b), cn, sn, s_ch σ ρ b 0 M.2.2.2) := by
  obtain ⟨g1, g2⟩ := s_id_g hQ
  rw [g2] at hgo
  unfold s_q12 at h
  split at h
  next y x rest =>
    split at h
    next m n e1 e2 =>
      obtain ⟨h1, h⟩ := s_bifn h
      have k1 := s_push_ok (ρ := ρ) (P := P) (b := b) hok hgo h hP
      simp only [s_cv, s_iz] at k1
      refine hcl _ ⟨ins, _, hd, Or.inr (Or.inl (Or.inr (Or.inl ⟨_, _, _, _, g1, g2, of_decide_eq_false h1, ?_, k1⟩)))⟩
      show s_cv σ ρ b y :: s_cv σ ρ b x :: _ = _
      rw [s_k_eq hok e1, s_k_eq hok e2]
    next => cases h
  next => cases h
theorem s_q13_ok (hcl : ∀ S, g_pre CALL o nL ini bc bs cc P S → P S) {a : Nat} (hok : s_ok xs σ M) (hd : decode cc pc = .ok (ins, s_len ins)) (hgo : s_pc t = pc + s_len ins) (hQ : s_iun ins = some a) (h : s_q13 t L st cn sn M a = some (.inr X')) (hP : s_hP P xs b σ ρ M X') : P (pc, s_cL σ ρ b L, st.map (s_cv σ ρ b), cn, sn, s_ch σ ρ b 0 M.2.2.2) := by
  obtain ⟨g1, g2⟩ := s_iu_g hQ
  rw [g2] at hgo
  have fin : ∀ (x : s_V) (rest : List s_V) (m : Int32), s_cv σ ρ b x = .int m → P (pc + 1, s_cL σ ρ b L, Value.int (s_fiu a m) :: rest.map (s_cv σ ρ b), cn, sn, s_ch σ ρ b 0 M.2.2.2) → P (pc, s_cL σ ρ b L, (x :: rest).map (s_cv σ ρ b), cn, sn, s_ch σ ρ b 0 M.2.2.2) := by
    intro x rest m ex k1
    refine hcl _ ⟨ins, _, hd, Or.inr (Or.inl (Or.inr (Or.inr (Or.inl ⟨_, m, rest.map (s_cv σ ρ b), g1, g2, ?_, k1⟩))))⟩
    show s_cv σ ρ b x :: _ = _
    rw [ex]
  unfold s_q13 at h
  split at h
  next x rest =>
    split at h
    next m e1 =>
      have k1 := s_push_ok (ρ := ρ) (P := P) (b := b) hok hgo h hP
      simp only [s_cv, s_iz] at k1
      exact fin x rest _ (s_k_eq hok e1) k1
    next =>
      obtain ⟨h1, h9⟩ := s_bif h
      clear h
      rw [Bool.and_eq_true, Nat.beq_eq] at h1
      obtain ⟨rfl, h1⟩ := h1
      obtain ⟨m, em⟩ := s_tk_0 (σ := σ) (ρ := ρ) (b := b) h1
      have k1 := s_fresh_ok (z := m.toInt8.toInt32.toInt) hok hgo ⟨by rw [Int8.toInt_toInt32]; have := Int8.le_toInt m.toInt8; omega, by rw [Int8.toInt_toInt32]; have := Int8.toInt_lt m.toInt8; omega⟩ (Or.inl rfl) h9 hP
      rw [s_iz] at k1
      exact fin x rest m em k1
  next => cases h
theorem s_fl1 (x : Int64) : s_flb 2 (Int64.ofInt 1) x = x ∧ s_flb 2 x (Int64.ofInt 1) = x := ⟨Int64.one_mul x, Int64.mul_one x⟩
theorem s_q14_ok (hcl : ∀ S, g_pre CALL o nL ini bc bs cc P S → P S) {a : Nat} (hok : s_ok xs σ M) (hd : decode cc pc = .ok (ins, s_len ins)) (hgo : s_pc t = pc + s_len ins) (hQ : s_lbn ins = some a) (h : s_q14 t L st cn sn M a = some (.inr X')) (hP : s_hP P xs b σ ρ M X') : P (pc, s_cL σ ρ b L, st.map (s_cv σ ρ b), cn, sn, s_ch σ ρ b 0 M.2.2.2) := by
  obtain ⟨g1, g2⟩ := s_lb_g hQ
  rw [g2] at hgo
  have fin : ∀ (x y : s_V) (rest : List s_V) (m n : Int64), s_cv σ ρ b x = .long m → s_cv σ ρ b y = .long n → P (pc + 1, s_cL σ ρ b L, Value.long (s_flb a m n) :: rest.map (s_cv σ ρ b), cn, sn, s_ch σ ρ b 0 M.2.2.2) → P (pc, s_cL σ ρ b L, (y :: x :: rest).map (s_cv σ ρ b), cn, sn, s_ch σ ρ b 0 M.2.2.2) := by
    intro x y rest m n ex ey k1
    refine hcl _ ⟨ins, _, hd, Or.inr (Or.inl (Or.inr (Or.inr (Or.inr (Or.inl ⟨_, m, n, rest.map (s_cv σ ρ b), g1, g2, ?_, k1⟩)))))⟩
    show s_cv σ ρ b y :: s_cv σ ρ b x :: _ = _
    rw [ex, ey]
  unfold s_q14 at h
  split at h
  next y x rest =>
    split at h
    next m n e1 e2 =>
      have k1 := s_push_ok (ρ := ρ) (P := P) (b := b) hok hgo h hP
      simp only [s_cv, s_lz] at k1
      exact fin x y rest _ _ (s_kl_eq hok e1) (s_kl_eq hok e2) k1
    next m e1 e2 =>
      obtain ⟨h1, h⟩ := s_bif h
      cases h
      simp only [Bool.and_eq_true, Nat.beq_eq, decide_eq_true_eq] at h1
      obtain ⟨rfl, rfl, h1⟩ := h1
      obtain ⟨n, en⟩ := s_tk_1 (σ := σ) (ρ := ρ) (b := b) h1
      have k1 := s_stay (st := y :: rest) hok hgo hP
      rw [List.map_cons, en] at k1
      exact fin x y rest _ n (s_kl_eq hok e1) en (by rw [(s_fl1 n).1]; exact k1)
    next n e1 e2 =>
      obtain ⟨h1, h⟩ := s_bif h
      cases h
      simp only [Bool.and_eq_true, Nat.beq_eq, decide_eq_true_eq] at h1
      obtain ⟨rfl, rfl, h1⟩ := h1
      obtain ⟨m, em⟩ := s_tk_1 (σ := σ) (ρ := ρ) (b := b) h1
      have k1 := s_stay (st := x :: rest) hok hgo hP
      rw [List.map_cons, em] at k1
      exact fin x y rest m _ em (s_kl_eq hok e2) (by rw [(s_fl1 m).2]; exact k1)
    next => cases h
  next => cases h
theorem s_fl2 (x : Int64) : s_fld 0 x (Int64.ofInt 1) = x ∧ s_fld 1 x (Int64.ofInt 1) = Int64.ofInt 0 := by
  have h1 : x / Int64.ofInt 1 = x := Int64.div_one
  refine ⟨h1, ?_⟩
  show x - x / Int64.ofInt 1 * Int64.ofInt 1 = Int64.ofInt 0
  rw [h1, show Int64.ofInt 1 = 1 from rfl, Int64.mul_one, Int64.sub_self]
  rfl
theorem s_q15_ok (hcl : ∀ S, g_pre CALL o nL ini bc bs cc P S → P S) {a : Nat} (hok : s_ok xs σ M) (hd : decode cc pc = .ok (ins, s_len ins)) (hgo : s_pc t = pc + s_len ins) (hQ : s_ldn ins = some a) (h : s_q15 t L st cn sn M a = some (.inr X')) (hP : s_hP P xs b σ ρ M X') : P (pc, s_cL σ ρ b L, st.map (s_cv σ ρ b), cn, sn, s_ch σ ρ b 0 M.2.2.2) := by
  obtain ⟨g1, g2⟩ := s_ldv_g hQ
  rw [g2] at hgo
  have fin : ∀ (x y : s_V) (rest : List s_V) (m n : Int64), ¬ n = 0 → s_cv σ ρ b x = .long m → s_cv σ ρ b y = .long n → P (pc + 1, s_cL σ ρ b L, Value.long (s_fld a m n) :: rest.map (s_cv σ ρ b), cn, sn, s_ch σ ρ b 0 M.2.2.2) → P (pc, s_cL σ ρ b L, (y :: x :: rest).map (s_cv σ ρ b), cn, sn, s_ch σ ρ b 0 M.2.2.2) := by
    intro x y rest m n hn ex ey k1
    refine hcl _ ⟨ins, _, hd, Or.inr (Or.inl (Or.inr (Or.inr (Or.inr (Or.inr (Or.inl ⟨_, m, n, rest.map (s_cv σ ρ b), g1, g2, hn, ?_, k1⟩))))))⟩
    show s_cv σ ρ b y :: s_cv σ ρ b x :: _ = _
    rw [ex, ey]
  unfold s_q15 at h
  split at h
  next y x rest =>
    split at h
    next m n e1 e2 =>
      obtain ⟨h1, h⟩ := s_bifn h
      have k1 := s_push_ok (ρ := ρ) (P := P) (b := b) hok hgo h hP
      simp only [s_cv, s_lz] at k1
      exact fin x y rest _ _ (of_decide_eq_false h1) (s_kl_eq hok e1) (s_kl_eq hok e2) k1
    next n e1 e2 =>
      cases e3 : (decide (n = 1) && (s_tk 1 x && Nat.beq a 1))
      · rw [e3, cond_false] at h
        obtain ⟨h1, h⟩ := s_bif h
        cases h
        simp only [Bool.and_eq_true, Nat.beq_eq, decide_eq_true_eq] at h1
        obtain ⟨rfl, h1, rfl⟩ := h1
        obtain ⟨m, em⟩ := s_tk_1 (σ := σ) (ρ := ρ) (b := b) h1
        have k1 := s_stay (st := x :: rest) hok hgo hP
        rw [List.map_cons, em] at k1
        exact fin x y rest m _ (by decide) em (s_kl_eq hok e2) (by rw [(s_fl2 m).1]; exact k1)
      · rw [e3, cond_true] at h
        cases h
        simp only [Bool.and_eq_true, Nat.beq_eq, decide_eq_true_eq] at e3
        obtain ⟨rfl, h1, rfl⟩ := e3
        obtain ⟨m, em⟩ := s_tk_1 (σ := σ) (ρ := ρ) (b := b) h1
        have k1 := s_stay (st := (1, 0) :: rest) hok hgo hP
        exact fin x y rest m _ (by decide) em (s_kl_eq hok e2) (by rw [(s_fl2 m).2]; exact k1)
    next => cases h
  next => cases h
theorem s_q16_ok (hcl : ∀ S, g_pre CALL o nL ini bc bs cc P S → P S) (hok : s_ok xs σ M) (hd : decode cc pc = .ok (ins, s_len ins)) (hgo : s_pc t = pc + s_len ins) (hQ : ins = .lneg) (h : s_q16 t L st cn sn M = some (.inr X')) (hP : s_hP P xs b σ ρ M X') : P (pc, s_cL σ ρ b L, st.map (s_cv σ ρ b), cn, sn, s_ch σ ρ b 0 M.2.2.2) := by
  subst hQ
  unfold s_q16 at h
  split at h
  next x rest =>
    split at h
    next m e1 =>
      have k1 := s_push_ok (ρ := ρ) (P := P) (b := b) hok hgo h hP
      simp only [s_cv, s_lz] at k1
      refine hcl _ ⟨_, _, hd, Or.inr (Or.inl (Or.inr (Or.inr (Or.inr (Or.inr (Or.inr (Or.inl ⟨_, _, rfl, rfl, ?_, k1⟩)))))))⟩
      show s_cv σ ρ b x :: _ = _
      rw [s_kl_eq hok e1]
    next => cases h
  next => cases h
theorem s_i2l {n : Int} (h : s_in32 n = true) : (Int32.ofInt n).toInt64 = Int64.ofInt n := by
  rw [← Int64.toInt_inj, Int32.toInt_toInt64, s_to32 h, s_to64]
  simp only [s_in32, s_in64, Bool.and_eq_true, decide_eq_true_eq] at h ⊢
  omega
theorem s_q17_ok (hcl : ∀ S, g_pre CALL o nL ini bc bs cc P S → P S) (hok : s_ok xs σ M) (hd : decode cc pc = .ok (ins, s_len ins)) (hgo : s_pc t = pc + s_len ins) (hQ : ins = .i2l) (h : s_q17 t L st cn sn M = some (.inr X')) (hP : s_hP P xs b σ ρ M X') : P (pc, s_cL σ ρ b L, st.map (s_cv σ ρ b), cn, sn, s_ch σ ρ b 0 M.2.2.2) := by
  subst hQ
  unfold s_q17 at h
  split at h
  next x rest =>
    split at h
    next m e1 =>
      have k1 := s_push_ok (ρ := ρ) (P := P) (b := b) hok hgo h hP
      simp only [s_cv, s_lz] at k1
      refine hcl _ ⟨_, _, hd, Or.inr (Or.inl (Or.inr (Or.inr (Or.inr (Or.inr (Or.inr (Or.inr (Or.inr (Or.inl ⟨_, _, rfl, rfl, ?_, k1⟩)))))))))⟩
      show s_cv σ ρ b x :: _ = _
      rw [s_k_eq hok e1]
    next =>
      split at h
      next r e2 =>
        obtain ⟨h1, h⟩ := s_bif h
        cases h
        rw [Nat.beq_eq] at h1
        obtain ⟨y, ey, -, -, hy, -⟩ := s_iv_eq (ρ := ρ) (b := b) hok e2
        have k1 := s_stay (st := (3, x.2) :: rest) hok hgo hP
        have hx := hy h1
        have e3 : s_cv σ ρ b (3, x.2) = .long y.toInt64 := by
          show Value.long (Int64.ofInt (σ x.2.toNat)) = _
          rw [hx, ← s_i2l, s_iz]
          simp only [s_in32, Bool.and_eq_true, decide_eq_true_eq]
          have := Int32.le_toInt y
          have := Int32.toInt_lt y
          omega
        rw [List.map_cons, e3] at k1
        refine hcl _ ⟨_, _, hd, Or.inr (Or.inl (Or.inr (Or.inr (Or.inr (Or.inr (Or.inr (Or.inr (Or.inr (Or.inl ⟨_, _, rfl, rfl, ?_, k1⟩)))))))))⟩
        show s_cv σ ρ b x :: _ = _
        rw [ey]
      next => cases h
  next => cases h
theorem s_q18_ok (hcl : ∀ S, g_pre CALL o nL ini bc bs cc P S → P S) (hok : s_ok xs σ M) (hd : decode cc pc = .ok (ins, s_len ins)) (hgo : s_pc t = pc + s_len ins) (hQ : ins = .l2i) (h : s_q18 t L st cn sn M = some (.inr X')) (hP : s_hP P xs b σ ρ M X') : P (pc, s_cL σ ρ b L, st.map (s_cv σ ρ b), cn, sn, s_ch σ ρ b 0 M.2.2.2) := by
  subst hQ
  unfold s_q18 at h
  split at h
  next x rest =>
    split at h
    next m e1 =>
      have k1 := s_push_ok (ρ := ρ) (P := P) (b := b) hok hgo h hP
      simp only [s_cv, s_iz] at k1
      refine hcl _ ⟨_, _, hd, Or.inr (Or.inl (Or.inr (Or.inr (Or.inr (Or.inr (Or.inr (Or.inr (Or.inr (Or.inr (Or.inl ⟨_, _, rfl, rfl, ?_, k1⟩))))))))))⟩
      show s_cv σ ρ b x :: _ = _
      rw [s_kl_eq hok e1]
    next => cases h
  next => cases h
theorem s_isv2 {v : s_V} {z : Int} (h : v.1 = 0 ∨ v.1 = 2) (h2 : v.1 = 2 → σ v.2.toNat = z) : s_isv v = true → σ v.2.toNat = z := by
  intro h3
  rcases h with h | h
  · unfold s_isv at h3; rw [h] at h3; cases h3
  · exact h2 h
theorem s_isv3 {v : s_V} {z : Int} (h : v.1 = 1 ∨ v.1 = 3) (h2 : v.1 = 3 → σ v.2.toNat = z) : s_isv v = true → σ v.2.toNat = z := by
  intro h3
  rcases h with h | h
  · unfold s_isv at h3; rw [h] at h3; cases h3
  · exact h2 h
theorem s_o_inl {c : Option (Nat × Nat × Int)} (h : s_o c = some (.inr X')) : False := by
  unfold s_o at h
  split at h <;> cases h
theorem s_q19_ok (hcl : ∀ S, g_pre CALL o nL ini bc bs cc P S → P S) (hok : s_ok xs σ M) (hd : decode cc pc = .ok (ins, s_len ins)) (hgo : s_pc t = pc + s_len ins) (hQ : ins = .lcmp) (h : s_q19 t L st cn sn M = some (.inr X')) (hP : s_hP P xs b σ ρ M X') : P (pc, s_cL σ ρ b L, st.map (s_cv σ ρ b), cn, sn, s_ch σ ρ b 0 M.2.2.2) := by
  subst hQ
  unfold s_q19 at h
  split at h
  next y x rest =>
    split at h
    next ix iy e1 e2 =>
      obtain ⟨x', ex, hx1, hx2, hx3, hx4⟩ := s_ivl_eq (ρ := ρ) (b := b) hok e1
      obtain ⟨y', ey, hy1, hy2, hy3, hy4⟩ := s_ivl_eq (ρ := ρ) (b := b) hok e2
      have fin : ∀ (z : Int), Int32.ofInt z = lg_cmp x' y' → X' = (t, L, (0, z) :: rest, cn, sn, M) → P (pc, s_cL σ ρ b L, (y :: x :: rest).map (s_cv σ ρ b), cn, sn, s_ch σ ρ b 0 M.2.2.2) := by
        intro z hz hX
        subst hX
        have k1 := s_stay (st := (0, z) :: rest) hok hgo hP
        rw [List.map_cons, show s_cv σ ρ b (0, z) = .int (Int32.ofInt z) from rfl, hz] at k1
        refine hcl _ ⟨_, _, hd, Or.inr (Or.inl (Or.inr (Or.inr (Or.inr (Or.inr (Or.inr (Or.inr (Or.inl ⟨_, _, _, rfl, rfl, ?_, k1⟩))))))))⟩
        show s_cv σ ρ b y :: s_cv σ ρ b x :: _ = _
        rw [ex, ey]
      have l1 := s_lt_eq hok.2.1 ⟨hx1, hx2⟩ ⟨hy1, hy2⟩ (s_isv3 hx4 hx3) (s_isv3 hy4 hy3)
      have q1 := s_eq_eq ⟨hx1, hx2⟩ ⟨hy1, hy2⟩ (s_isv3 hx4 hx3) (s_isv3 hy4 hy3)
      split at h
      next e3 =>
        have h1 := l1.1 e3
        cases h
        refine fin (-1) ?_ rfl
        unfold lg_cmp
        rw [if_neg (show ¬ x' > y' from fun h2 => by have := Int64.lt_iff_toInt_lt.mp h2; omega), if_neg (fun h2 => by rw [h2] at h1; omega)]
        rfl
      next e3 =>
        have h1 := l1.2 e3
        split at h
        next e4 =>
          have h2 := q1.1 e4
          cases h
          refine fin 0 ?_ rfl
          have h3 : x' = y' := Int64.toInt_inj.mp h2
          subst h3
          unfold lg_cmp
          rw [if_neg (show ¬ x' > x' from fun h2 => by have := Int64.lt_iff_toInt_lt.mp h2; omega), if_pos rfl]
          rfl
        next e4 =>
          have h2 := q1.2 e4
          cases h
          refine fin 1 ?_ rfl
          unfold lg_cmp
          rw [if_pos (show x' > y' from Int64.lt_iff_toInt_lt.mpr (by omega))]
          rfl
        next => exact (s_o_inl h).elim
      next => exact (s_o_inl h).elim
    next => cases h
  next => cases h
end S22
end
section
-- the steps of the machine over bounds are the plain machine's: branches, fields, arrays
section S23
variable {P : g_S → Prop} {xs : Nat → Int} {σ : Nat → Int} {ρ : Nat → Nat} {b : Nat} {M : s_M} {CALL : Nat → List Value → g_H → Nat → Nat → (Option Value → g_H → Prop) → Prop} {cc : ByteArray} {o nL : Nat} {ini : Bool} {bc bs : Nat}
variable {t : List s_I} {L : s_L} {st : List s_V} {cn sn pc : Nat} {ins : Instr} {X' : s_X} {full : List s_I} {r : s_I}
theorem s_jump_eq {pc : Nat} : ∀ {l t' : List s_I}, s_jump l pc = some t' → s_pc t' = pc
  | [], _, h => by cases h
  | r :: t, t', h => by
    simp only [s_jump] at h
    cases e : Nat.beq r.1 pc
    · rw [e, cond_false] at h; exact s_jump_eq h
    · rw [e, cond_true] at h
      cases h
      exact Nat.beq_eq.mp e
theorem s_jmp_ok {pc' : Nat} (hok : s_ok xs σ M) (h : s_jmp full pc' L st cn sn M = some (.inr X')) (hP : s_hP P xs b σ ρ M X') : P (pc', s_cL σ ρ b L, st.map (s_cv σ ρ b), cn, sn, s_ch σ ρ b 0 M.2.2.2) := by
  unfold s_jmp at h
  split at h
  next t' e =>
    cases h
    exact s_stay hok (s_jump_eq e) hP
  next => cases h
theorem s_go_eq (h : s_go r t = true) : s_pc t = r.1 + r.2.1 := by
  unfold s_go at h
  split at h
  · cases h
  · exact Nat.beq_eq.mp h
theorem s_nxt_ok (hok : s_ok xs σ M) (h : s_nxt r t L st cn sn M = some (.inr X')) (hP : s_hP P xs b σ ρ M X') : P (r.1 + r.2.1, s_cL σ ρ b L, st.map (s_cv σ ρ b), cn, sn, s_ch σ ρ b 0 M.2.2.2) := by
  unfold s_nxt at h
  obtain ⟨h1, h⟩ := s_bif h
  cases h
  exact s_stay hok (s_go_eq h1) hP
theorem s_q20_ok (hcl : ∀ S, g_pre CALL o nL ini bc bs cc P S → P S) {a : Nat} {off : Int} (hok : s_ok xs σ M) (hd : decode cc r.1 = .ok (.goto off, 3)) (hQ : (r.1 : Int) + off = (a : Int)) (h : s_jmp full a L st cn sn M = some (.inr X')) (hP : s_hP P xs b σ ρ M X') : P (r.1, s_cL σ ρ b L, st.map (s_cv σ ρ b), cn, sn, s_ch σ ρ b 0 M.2.2.2) :=
  hcl _ ⟨_, _, hd, Or.inr (Or.inr (Or.inl (Or.inl ⟨_, _, rfl, rfl, hQ, s_jmp_ok hok h hP⟩)))⟩
theorem s_q21_ok (hcl : ∀ S, g_pre CALL o nL ini bc bs cc P S → P S) {a : Nat} {cd : ClassFile.Cond} {off : Int} (hok : s_ok xs σ M) (hd : decode cc r.1 = .ok (.ifCond cd off, 3)) (hl : r.2.1 = 3) (hQ : (r.1 : Int) + off = (a : Int)) (h : s_q21 full r t L st cn sn M a (s_cdn cd) = some (.inr X')) (hP : s_hP P xs b σ ρ M X') : P (r.1, s_cL σ ρ b L, st.map (s_cv σ ρ b), cn, sn, s_ch σ ρ b 0 M.2.2.2) := by
  unfold s_q21 at h
  split at h
  next x rest =>
    split at h
    next ix e1 =>
      obtain ⟨x', ex, hx1, hx2, hx3, hx4⟩ := s_iv_eq (ρ := ρ) (b := b) hok e1
      have c1 := s_cond_eq (y := 0) (ib := (0, 0)) (c := (0, 0)) hok.2.1 cd ⟨hx1, hx2⟩ ⟨by decide, by decide⟩ (s_isv2 hx4 hx3) (fun h => by cases h)
      have fin : P (if g_c1 x' cd = true then a else r.1 + 3, s_cL σ ρ b L, rest.map (s_cv σ ρ b), cn, sn, s_ch σ ρ b 0 M.2.2.2) → P (r.1, s_cL σ ρ b L, (x :: rest).map (s_cv σ ρ b), cn, sn, s_ch σ ρ b 0 M.2.2.2) := by
        intro k1
        refine hcl _ ⟨_, _, hd, Or.inr (Or.inr (Or.inl (Or.inr (Or.inl ⟨_, _, _, _, _, rfl, rfl, hQ, ?_, k1⟩))))⟩
        show s_cv σ ρ b x :: _ = _
        rw [ex]
      split at h
      next e3 =>
        have h1 := c1.1 e3
        refine fin ?_
        rw [s_c1_c2, if_pos h1]
        exact s_jmp_ok hok h hP
      next e3 =>
        have h1 := c1.2 e3
        refine fin ?_
        rw [s_c1_c2, if_neg (by rw [h1]; exact Bool.false_ne_true), ← hl]
        exact s_nxt_ok hok h hP
      next => exact (s_o_inl h).elim
    next => cases h
  next => cases h
theorem s_q22_ok (hcl : ∀ S, g_pre CALL o nL ini bc bs cc P S → P S) {a : Nat} {cd : ClassFile.Cond} {off : Int} (hok : s_ok xs σ M) (hd : decode cc r.1 = .ok (.if_icmp cd off, 3)) (hl : r.2.1 = 3) (hQ : (r.1 : Int) + off = (a : Int)) (h : s_q22 full r t L st cn sn M a (s_cdn cd) = some (.inr X')) (hP : s_hP P xs b σ ρ M X') : P (r.1, s_cL σ ρ b L, st.map (s_cv σ ρ b), cn, sn, s_ch σ ρ b 0 M.2.2.2) := by
  unfold s_q22 at h
  split at h
  next y x rest =>
    split at h
    next ix iy e1 e2 =>
      obtain ⟨x', ex, hx1, hx2, hx3, hx4⟩ := s_iv_eq (ρ := ρ) (b := b) hok e1
      obtain ⟨y', ey, hy1, hy2, hy3, hy4⟩ := s_iv_eq (ρ := ρ) (b := b) hok e2
      have c1 := s_cond_eq hok.2.1 cd ⟨hx1, hx2⟩ ⟨hy1, hy2⟩ (s_isv2 hx4 hx3) (s_isv2 hy4 hy3)
      have fin : P (if g_c2 x' y' cd = true then a else r.1 + 3, s_cL σ ρ b L, rest.map (s_cv σ ρ b), cn, sn, s_ch σ ρ b 0 M.2.2.2) → P (r.1, s_cL σ ρ b L, (y :: x :: rest).map (s_cv σ ρ b), cn, sn, s_ch σ ρ b 0 M.2.2.2) := by
        intro k1
        refine hcl _ ⟨_, _, hd, Or.inr (Or.inr (Or.inl (Or.inr (Or.inr (Or.inl ⟨_, _, _, _, _, _, rfl, rfl, hQ, ?_, k1⟩)))))⟩
        show s_cv σ ρ b y :: s_cv σ ρ b x :: _ = _
        rw [ex, ey]
      split at h
      next e3 =>
        have h1 := c1.1 e3
        refine fin ?_
        rw [if_pos h1]
        exact s_jmp_ok hok h hP
      next e3 =>
        have h1 := c1.2 e3
        refine fin ?_
        rw [if_neg (by rw [h1]; exact Bool.false_ne_true), ← hl]
        exact s_nxt_ok hok h hP
      next => exact (s_o_inl h).elim
    next => cases h
  next => cases h
theorem s_nul {x : s_V} (h : (Nat.beq x.1 4 || Nat.beq x.1 5) = true) : (x.1 = 4 ∧ s_cv σ ρ b x = .null) ∨ (x.1 = 5 ∧ ∃ a, s_cv σ ρ b x = .ref a) := by
  obtain ⟨t, n⟩ := x
  rw [Bool.or_eq_true, Nat.beq_eq, Nat.beq_eq] at h
  rcases h with h | h
  · have h' : t = 4 := h
    subst h'; exact Or.inl ⟨rfl, rfl⟩
  · have h' : t = 5 := h
    subst h'; exact Or.inr ⟨rfl, _, rfl⟩
theorem s_q23_ok (hcl : ∀ S, g_pre CALL o nL ini bc bs cc P S → P S) {a : Nat} {off : Int} (hok : s_ok xs σ M) (hd : decode cc r.1 = .ok (.ifnull off, 3)) (hl : r.2.1 = 3) (hQ : (r.1 : Int) + off = (a : Int)) (h : s_q23 full r t L st cn sn M a false = some (.inr X')) (hP : s_hP P xs b σ ρ M X') : P (r.1, s_cL σ ρ b L, st.map (s_cv σ ρ b), cn, sn, s_ch σ ρ b 0 M.2.2.2) := by
  unfold s_q23 at h
  split at h
  next x rest =>
    obtain ⟨h1, h⟩ := s_bif h
    rcases s_nul (σ := σ) (ρ := ρ) (b := b) h1 with ⟨e1, e2⟩ | ⟨e1, y, e2⟩
    · rw [e1] at h
      have k1 := s_jmp_ok (ρ := ρ) (b := b) (P := P) hok (show s_jmp full a L rest cn sn M = some (.inr X') from h) hP
      refine hcl _ ⟨_, _, hd, Or.inr (Or.inr (Or.inl (Or.inr (Or.inr (Or.inr (Or.inl ⟨_, _, 0, _, rfl, rfl, hQ, Or.inl ⟨?_, k1⟩⟩))))))⟩
      show s_cv σ ρ b x :: _ = _
      rw [e2]
    · rw [e1] at h
      have k1 := s_nxt_ok (ρ := ρ) (b := b) (P := P) hok (show s_nxt r t L rest cn sn M = some (.inr X') from h) hP
      rw [hl] at k1
      refine hcl _ ⟨_, _, hd, Or.inr (Or.inr (Or.inl (Or.inr (Or.inr (Or.inr (Or.inl ⟨_, _, y, _, rfl, rfl, hQ, Or.inr ⟨?_, k1⟩⟩))))))⟩
      show s_cv σ ρ b x :: _ = _
      rw [e2]
  next => cases h
theorem s_q24_ok (hcl : ∀ S, g_pre CALL o nL ini bc bs cc P S → P S) {a : Nat} {off : Int} (hok : s_ok xs σ M) (hd : decode cc r.1 = .ok (.ifnonnull off, 3)) (hl : r.2.1 = 3) (hQ : (r.1 : Int) + off = (a : Int)) (h : s_q23 full r t L st cn sn M a true = some (.inr X')) (hP : s_hP P xs b σ ρ M X') : P (r.1, s_cL σ ρ b L, st.map (s_cv σ ρ b), cn, sn, s_ch σ ρ b 0 M.2.2.2) := by
  unfold s_q23 at h
  split at h
  next x rest =>
    obtain ⟨h1, h⟩ := s_bif h
    rcases s_nul (σ := σ) (ρ := ρ) (b := b) h1 with ⟨e1, e2⟩ | ⟨e1, y, e2⟩
    · rw [e1] at h
      have k1 := s_nxt_ok (ρ := ρ) (b := b) (P := P) hok (show s_nxt r t L rest cn sn M = some (.inr X') from h) hP
      rw [hl] at k1
      refine hcl _ ⟨_, _, hd, Or.inr (Or.inr (Or.inl (Or.inr (Or.inr (Or.inr (Or.inr (Or.inl ⟨_, _, 0, _, rfl, rfl, hQ, Or.inl ⟨?_, k1⟩⟩)))))))⟩
      show s_cv σ ρ b x :: _ = _
      rw [e2]
    · rw [e1] at h
      have k1 := s_jmp_ok (ρ := ρ) (b := b) (P := P) hok (show s_jmp full a L rest cn sn M = some (.inr X') from h) hP
      refine hcl _ ⟨_, _, hd, Or.inr (Or.inr (Or.inl (Or.inr (Or.inr (Or.inr (Or.inr (Or.inl ⟨_, _, y, _, rfl, rfl, hQ, Or.inr ⟨?_, k1⟩⟩)))))))⟩
      show s_cv σ ρ b x :: _ = _
      rw [e2]
  next => cases h
theorem s_tgt_eq {pc n : Nat} {off : Int} (h : s_tgt pc off = some n) : (pc : Int) + off = (n : Int) := by
  unfold s_tgt at h
  split at h
  next m e => cases h; exact e
  next => cases h
theorem s_q25_ok (hcl : ∀ S, g_pre CALL o nL ini bc bs cc P S → P S) {len : Nat} (hok : s_ok xs σ M) (hd : decode cc r.1 = .ok (r.2.2.2.2.2.2.2, len)) (h : s_q25 full r L st cn sn M = some (.inr X')) (hP : s_hP P xs b σ ρ M X') : P (r.1, s_cL σ ρ b L, st.map (s_cv σ ρ b), cn, sn, s_ch σ ρ b 0 M.2.2.2) := by
  unfold s_q25 at h
  split at h
  next dflt lo hi offs ei =>
    rw [ei] at hd
    split at h
    next x rest =>
      split at h
      next ix e1 =>
        obtain ⟨x', ex, hx1, hx2, hx3, hx4⟩ := s_iv_eq (ρ := ρ) (b := b) hok e1
        have est : (x :: rest).map (s_cv σ ρ b) = Value.int x' :: rest.map (s_cv σ ρ b) := by rw [List.map_cons, ex]
        cases e2 : (decide (ix.2 < lo) || decide (hi < ix.1))
        · rw [e2, cond_false] at h
          simp only [Bool.or_eq_false_iff, decide_eq_false_iff_not] at e2
          by_cases e3 : ix.1 = ix.2
          · simp only [e3, decide_true, cond_true] at h
            split at h
            next off e4 =>
              split at h
              next n e5 =>
                have hxx : x'.toInt = ix.2 := by omega
                exact hcl _ ⟨_, _, hd, Or.inr (Or.inr (Or.inl (Or.inr (Or.inr (Or.inr (Or.inr (Or.inr ⟨_, _, _, _, _, _, _, _, rfl, est, s_tgt_eq e5, Or.inl ⟨by omega, by omega, by rw [hxx]; exact e4⟩, s_jmp_ok hok h hP⟩)))))))⟩
              next => cases h
            next => cases h
          · simp only [e3, decide_false, cond_false] at h
            obtain ⟨h1, h⟩ := s_bif h
            cases h
        · rw [e2, cond_true] at h
          simp only [Bool.or_eq_true, decide_eq_true_eq] at e2
          split at h
          next n e5 =>
            exact hcl _ ⟨_, _, hd, Or.inr (Or.inr (Or.inl (Or.inr (Or.inr (Or.inr (Or.inr (Or.inr ⟨_, _, _, _, _, _, _, _, rfl, est, s_tgt_eq e5, Or.inr ⟨by omega, rfl⟩, s_jmp_ok hok h hP⟩)))))))⟩
          next => cases h
      next => cases h
    next => cases h
  next => cases h
/-- a cell by its place -/
theorem s_cell_eq {v : s_V} {c : s_C} (h : s_cell M v = some c) : s_cv σ ρ b v = .ref (ρ v.2.toNat) ∧ g_get (s_ch σ ρ b 0 M.2.2.2) v.2.toNat = some (ρ v.2.toNat, s_cc σ ρ b c) ∧ M.2.2.2[v.2.toNat]? = some c := by
  obtain ⟨t, n⟩ := v
  unfold s_cell at h
  obtain ⟨h1, h⟩ := s_bif h
  have h1' : t = 5 := Nat.beq_eq.mp h1
  subst h1'
  refine ⟨rfl, ?_, h⟩
  rw [s_ch_get, h, Nat.zero_add]
  rfl
theorem s_idx_eq (hok : s_ok xs σ M) {n k : Nat} {j : s_V} (h : s_idx M.1 n j = some (.inr k)) : ∃ x : Int32, s_cv σ ρ b j = .int x ∧ vp_in x n ∧ x.toNatClampNeg = k ∧ x.toInt = k ∧ k < n := by
  unfold s_idx at h
  split at h
  next ix e =>
    obtain ⟨h1, h⟩ := s_bif h
    simp only [Bool.and_eq_true, decide_eq_true_eq] at h1
    obtain ⟨x, ex, hx1, hx2, -, -⟩ := s_iv_eq (ρ := ρ) (b := b) hok e
    by_cases e2 : ix.1 = ix.2
    · simp only [e2, decide_true, cond_true, s_fn_eq] at h
      cases h
      have hx : x.toInt = ix.2 := by omega
      exact ⟨x, ex, vp_in_iff.mpr ⟨by omega, by omega⟩, by show x.toInt.toNat = _; rw [hx], by omega, by omega⟩
    · simp only [e2, decide_false, cond_false] at h
      obtain ⟨h2, h⟩ := s_bif h
      cases h
  next => cases h
theorem s_inb_eq (hok : s_ok xs σ M) {n : Nat} {j : s_V} (h : s_inb M.1 n j = true) : ∃ x : Int32, s_cv σ ρ b j = .int x ∧ vp_in x n := by
  unfold s_inb at h
  split at h
  next ix e =>
    simp only [Bool.and_eq_true, decide_eq_true_eq] at h
    obtain ⟨x, ex, hx1, hx2, -, -⟩ := s_iv_eq (ρ := ρ) (b := b) hok e
    exact ⟨x, ex, vp_in_iff.mpr ⟨by omega, by omega⟩⟩
  next => cases h
theorem s_q26_ok (hcl : ∀ S, g_pre CALL o nL ini bc bs cc P S → P S) {i kd a k : Nat} {v : Int} (hok : s_ok xs σ M) (hd : decode cc pc = .ok (.getfield i, 3)) (hgo : s_pc t = pc + 3) (hlk : s_lkd o i kd a k v) (h : s_q26 t L st cn sn M kd a k = some (.inr X')) (hP : s_hP P xs b σ ρ M X') : P (pc, s_cL σ ρ b L, st.map (s_cv σ ρ b), cn, sn, s_ch σ ρ b 0 M.2.2.2) := by
  obtain ⟨ps, hlk⟩ := hlk
  unfold s_q26 at h
  split at h
  next u rest =>
    split at h
    next c e1 =>
      obtain ⟨h1, h⟩ := s_bif h
      cases h
      simp only [Bool.and_eq_true, Nat.beq_eq, Nat.blt_eq, Bool.not_eq_true'] at h1
      obtain ⟨hk, hf, ha, hn⟩ := h1
      obtain ⟨c1, c2, -⟩ := s_cell_eq (σ := σ) (ρ := ρ) (b := b) e1
      have hk' : kd = 0 ∨ kd = 1 := by have := Nat.le_of_ble_eq_true hk; omega
      have k1 := s_stay (st := s_lk c.2.2.2.2 k c.2.2.2.1 :: rest) hok hgo hP
      obtain ⟨x, y, n, d, fs⟩ := c
      have hf' : x = false := hf
      have ha' : y = a := ha
      subst hf' ha'
      refine hcl _ ⟨_, _, hd, Or.inr (Or.inr (Or.inr (Or.inl (Or.inl ⟨_, _, _, _, _, _, _, _, _, _, rest.map (s_cv σ ρ b), rfl, rfl, hk', hlk, ?_, c2, hn, k1⟩))))⟩
      show s_cv σ ρ b u :: _ = _
      rw [c1]
    next => cases h
  next => cases h
/-- what a store does to the heap -/
theorem s_set_ok {p k : Nat} {c : s_C} {v : s_V} {pc' : Nat} (hok : s_ok xs σ M) (hgo : s_pc t = pc') (h : s_set t L st cn sn M p c k v = some (.inr X')) (hP : s_hP P xs b σ ρ M X') : P (pc', s_cL σ ρ b L, st.map (s_cv σ ρ b), cn, sn, (s_ch σ ρ b 0 M.2.2.2).set p (ρ p, c.1, c.2.1, c.2.2.1, g_up (s_cc σ ρ b c).2.2.2 k (s_cv σ ρ b v))) := by
  obtain ⟨E, R, B, H⟩ := M
  obtain ⟨x, y, n, d, fs⟩ := c
  unfold s_set at h
  simp only [s_putK_eq, s_hset_eq] at h
  cases h
  subst hgo
  have key := hP σ ρ (fun _ _ => rfl) (fun _ _ => rfl) hok
  have e1 : s_cc σ ρ b (x, y, n, d, s_put fs k v) = (x, y, n, g_up (s_cc σ ρ b (x, y, n, d, fs)).2.2.2 k (s_cv σ ρ b v)) := by
    unfold s_cc
    congr 3
    funext j
    show s_cv σ ρ b (s_lk (s_put fs k v) j d) = if j = k then s_cv σ ρ b v else s_cv σ ρ b (s_lk fs j d)
    rw [s_lk_put]
    by_cases hj : j = k
    · rw [if_pos hj, if_pos hj]
    · rw [if_neg hj, if_neg hj]
  have e2 : (s_ch σ ρ b 0 H).set p (ρ p, x, y, n, g_up (s_cc σ ρ b (x, y, n, d, fs)).2.2.2 k (s_cv σ ρ b v)) = s_ch σ ρ b 0 (H.set p (x, y, n, d, s_put fs k v)) := by
    rw [← s_ch_set, Nat.zero_add, e1]
  rw [show (s_ch σ ρ b 0 (E, R, B, H).2.2.2) = s_ch σ ρ b 0 H from rfl, e2]
  exact key
theorem s_bo_eq {v : s_V} (h : s_bo v = true) : s_cv σ ρ b v = .int 0 ∨ s_cv σ ρ b v = .int 1 := by
  obtain ⟨t, n⟩ := v
  simp only [s_bo, Bool.and_eq_true, Nat.beq_eq, Bool.or_eq_true, decide_eq_true_eq] at h
  obtain ⟨rfl, rfl | rfl⟩ := h
  · exact Or.inl rfl
  · exact Or.inr rfl
/-- field types told by numbers -/
def s_ftok (ft : s_FT) : Prop := ∀ a k ty fin, (ft.getD a []).getD k (9, true) = (ty, fin) → ty < 4 → (g_fd a k).2 = fin ∧ ∃ T, parseFieldDescriptor (g_fd a k).1 = some T ∧ (match ty with | 0 => T = .int | 1 => T = .long | 2 => T = .boolean | _ => (∃ n, T = .object n) ∨ ∃ u, T = .array u)
theorem s_q27_ok (hcl : ∀ S, g_pre CALL o nL ini bc bs cc P S → P S) {ft : s_FT} (hft : s_ftok ft) {i kd a k : Nat} {v0 : Int} (hok : s_ok xs σ M) (hd : decode cc pc = .ok (.putfield i, 3)) (hgo : s_pc t = pc + 3) (hlk : s_lkd o i kd a k v0) (h : s_q27 ft o ini t L st cn sn M kd a k = some (.inr X')) (hP : s_hP P xs b σ ρ M X') : P (pc, s_cL σ ρ b L, st.map (s_cv σ ρ b), cn, sn, s_ch σ ρ b 0 M.2.2.2) := by
  obtain ⟨ps, hlk⟩ := hlk
  unfold s_q27 at h
  split at h
  next v u rest =>
    split at h
    next c e1 =>
      split at h
      next ty fin e2 =>
        obtain ⟨h1, h⟩ := s_bif h
        simp only [Bool.and_eq_true, Nat.beq_eq, Nat.blt_eq, Bool.not_eq_true', Bool.or_eq_true] at h1
        obtain ⟨hk, hf, ha, hn, hv, hty, hfin⟩ := h1
        obtain ⟨c1, c2, -⟩ := s_cell_eq (σ := σ) (ρ := ρ) (b := b) e1
        obtain ⟨f1, T, f2, f3⟩ := hft a k ty fin e2 hty
        have hk' : kd = 0 ∨ kd = 1 := by have := Nat.le_of_ble_eq_true hk; omega
        have k1 := s_set_ok (ρ := ρ) (b := b) (P := P) hok hgo h hP
        obtain ⟨x, y, n, d, fs⟩ := c
        have hf' : x = false := hf
        have ha' : y = a := ha
        subst hf' ha'
        have hnv : narrow T (s_cv σ ρ b v) = s_cv σ ρ b v ∧ fits T (s_cv σ ρ b v) = true := by
          match ty, hty, hv, f3 with
          | 0, _, hv, f3 =>
            obtain ⟨z, ez⟩ := s_tk_0 (σ := σ) (ρ := ρ) (b := b) hv
            subst f3; rw [ez]; exact ⟨rfl, rfl⟩
          | 1, _, hv, f3 =>
            obtain ⟨z, ez⟩ := s_tk_1 (σ := σ) (ρ := ρ) (b := b) hv
            subst f3; rw [ez]; exact ⟨rfl, rfl⟩
          | 2, _, hv, f3 =>
            subst f3
            rcases s_bo_eq (σ := σ) (ρ := ρ) (b := b) hv with ez | ez <;> rw [ez] <;> exact ⟨rfl, rfl⟩
          | 3, _, hv, f3 =>
            rcases s_tk_2 (σ := σ) (ρ := ρ) (b := b) hv with ez | ⟨z, ez⟩ <;> rw [ez] <;> rcases f3 with ⟨w, rfl⟩ | ⟨w, rfl⟩ <;> exact ⟨rfl, rfl⟩
        refine hcl _ ⟨_, _, hd, Or.inr (Or.inr (Or.inr (Or.inl (Or.inr (Or.inl ⟨_, _, _, _, _, _, u.2.toNat, ρ u.2.toNat, n, (s_cc σ ρ b (false, y, n, d, fs)).2.2.2, _, T, rest.map (s_cv σ ρ b), rfl, rfl, hk', hlk, ?_, c2, hn, ?_, f2, hnv.1, hnv.2, k1⟩)))))⟩
        · show s_cv σ ρ b v :: s_cv σ ρ b u :: _ = _
          rw [c1]
        · rcases hfin with hfin | ⟨h1, h2, h3⟩
          · exact Or.inl (f1.trans hfin)
          · exact Or.inr ⟨h1, h2, h3⟩
    next => cases h
  next => cases h
/-- the script: scr - 1 ints at the cell b (none where scr is 0) -/
def s_scr (scr : Nat) (cc : ByteArray) (b : Nat) (xs : Nat → Int) (P : g_S → Prop) : Prop := 0 < scr → (∀ pc L rest w, decode cc pc = .ok (.arraylength, 1) → P (pc + 1, L, .int (Int32.ofInt ((scr - 1 : Nat) : Int)) :: rest, w) → P (pc, L, .ref b :: rest, w)) ∧ ∀ pc L rest w (j : Int32) (k : Nat), decode cc pc = .ok (.iaload, 1) → k < scr - 1 → j.toInt = k → P (pc + 1, L, .int (Int32.ofInt (xs k)) :: rest, w) → P (pc, L, .int j :: .ref b :: rest, w)
theorem s_cv7 {v : s_V} (h : v.1 = 7) : s_cv σ ρ b v = .ref b := by
  obtain ⟨t, n⟩ := v
  have h' : t = 7 := h
  subst h'; rfl
theorem s_q28_ok (hcl : ∀ S, g_pre CALL o nL ini bc bs cc P S → P S) {scr : Nat} (hscr : s_scr scr cc b xs P) (hok : s_ok xs σ M) (hd : decode cc pc = .ok (.arraylength, 1)) (hgo : s_pc t = pc + 1) (h : s_q28 scr t L st cn sn M = some (.inr X')) (hP : s_hP P xs b σ ρ M X') : P (pc, s_cL σ ρ b L, st.map (s_cv σ ρ b), cn, sn, s_ch σ ρ b 0 M.2.2.2) := by
  unfold s_q28 at h
  split at h
  next u rest =>
    cases e : (Nat.blt 0 scr && Nat.beq u.1 7)
    · rw [e, cond_false] at h
      split at h
      next c e1 =>
        obtain ⟨h1, h⟩ := s_bif h
        cases h
        simp only [Bool.and_eq_true, Nat.blt_eq] at h1
        obtain ⟨c1, c2, -⟩ := s_cell_eq (σ := σ) (ρ := ρ) (b := b) e1
        have k1 := s_stay (st := (0, (c.2.2.1 : Int)) :: rest) hok hgo hP
        obtain ⟨x, y, n, d, fs⟩ := c
        have hf' : x = true := h1.1
        subst hf'
        refine hcl _ ⟨_, _, hd, Or.inr (Or.inr (Or.inr (Or.inl (Or.inr (Or.inr (Or.inr (Or.inr (Or.inr (Or.inr (Or.inr (Or.inr (Or.inr (Or.inr (Or.inr (Or.inl ⟨u.2.toNat, ρ u.2.toNat, y, n, _, rest.map (s_cv σ ρ b), rfl, rfl, ?_, h1.2, c2, k1⟩)))))))))))))))⟩
        show s_cv σ ρ b u :: _ = _
        rw [c1]
      next => cases h
    · rw [e, cond_true] at h
      cases h
      simp only [Bool.and_eq_true, Nat.beq_eq, Nat.blt_eq] at e
      have k1 := s_stay (st := (0, ((scr - 1 : Nat) : Int)) :: rest) hok hgo hP
      have := (hscr e.1).1 pc (s_cL σ ρ b L) (rest.map (s_cv σ ρ b)) _ hd k1
      rw [List.map_cons, s_cv7 e.2]
      exact this
  next => cases h
theorem s_mk_ok {c : s_C} {pc' : Nat} (hok : s_ok xs σ M) (hgo : s_pc t = pc') (h : s_mk t L st cn sn M c = some (.inr X')) (hP : s_hP P xs b σ ρ M X') (hc : ∀ ρ' : Nat → Nat, s_cc σ ρ' b c = s_cc σ ρ b c) : ∀ q : Nat, P (pc', s_cL σ ρ b L, Value.ref q :: st.map (s_cv σ ρ b), cn + 1, sn + c.2.2.1, s_ch σ ρ b 0 M.2.2.2 ++ [(q, s_cc σ ρ b c)]) := by
  intro q
  obtain ⟨E, R, B, H⟩ := M
  subst hgo
  unfold s_mk at h
  obtain ⟨h1, h⟩ := s_bif h
  simp only [s_fn_eq, s_app_eq] at h
  cases h
  simp only [s_wf, s_wM, Bool.and_eq_true] at h1
  obtain ⟨hwL, hwS, ⟨hwR, hwB⟩, hwH⟩ := h1
  have hag : ∀ i, i < H.length → (fun i => if i = H.length then q else ρ i) i = ρ i := fun i hi => if_neg (by omega)
  have key := hP σ (fun i => if i = H.length then q else ρ i) (fun _ _ => rfl) hag hok
  have e1 : s_cL σ (fun i => if i = H.length then q else ρ i) b L = s_cL σ ρ b L := s_wL_ag hwL (fun _ _ => rfl) hag
  have e2 : st.map (s_cv σ (fun i => if i = H.length then q else ρ i) b) = st.map (s_cv σ ρ b) := s_wS_ag hwS (fun _ _ => rfl) hag
  have e3 : s_ch σ (fun i => if i = H.length then q else ρ i) b 0 H = s_ch σ ρ b 0 H := s_ch_ag H 0 hwH (by omega) (fun _ _ => rfl) hag
  have e4 : s_cv σ (fun i => if i = H.length then q else ρ i) b (5, (H.length : Int)) = .ref q := by
    simp only [s_cv, Int.toNat_natCast, if_true]
  have e5 : s_cX σ (fun i => if i = H.length then q else ρ i) b (t, L, (5, (H.length : Int)) :: st, cn + 1, sn + c.2.2.1, (E, R, B, H ++ [c])) = (s_pc t, s_cL σ ρ b L, Value.ref q :: st.map (s_cv σ ρ b), cn + 1, sn + c.2.2.1, s_ch σ ρ b 0 H ++ [(q, s_cc σ ρ b c)]) := by
    show (s_pc t, s_cL σ _ b L, s_cv σ _ b (5, (H.length : Int)) :: st.map (s_cv σ _ b), cn + 1, sn + c.2.2.1, s_ch σ _ b 0 (H ++ [c])) = _
    rw [e1, e2, e4, s_ch_app, e3, hc, Nat.zero_add, if_pos rfl]
  rw [e5] at key
  exact key
theorem s_k32 {n : Int} (h0 : 0 ≤ n) (h1 : n ≤ 65536) : ¬ Int32.ofInt n < 0 ∧ (Int32.ofInt n).toNatClampNeg = n.toNat ∧ n.toNat ≤ 65536 := by
  have e : (Int32.ofInt n).toInt = n := Int32.toInt_ofInt_of_le (by omega) (by omega)
  refine ⟨fun h => ?_, ?_, by omega⟩
  · have h2 := Int32.lt_iff_toInt_lt.mp h
    rw [e] at h2
    have : (0 : Int32).toInt = 0 := rfl
    omega
  · show (Int32.ofInt n).toInt.toNat = _
    rw [e]
theorem s_q29_ok (hcl : ∀ S, g_pre CALL o nL ini bc bs cc P S → P S) {at' : ArrayType} {a : Nat} (hok : s_ok xs σ M) (hd : decode cc pc = .ok (.newarray at', 2)) (hgo : s_pc t = pc + 2) (hQ : s_nar at' = a) (ha : a < 4) (h : s_q29 bc bs t L st cn sn M a = some (.inr X')) (hP : s_hP P xs b σ ρ M X') : P (pc, s_cL σ ρ b L, st.map (s_cv σ ρ b), cn, sn, s_ch σ ρ b 0 M.2.2.2) := by
  have hat : at' = g_at a ∧ ∀ j : Nat, s_cv σ ρ b (s_dva a) = defaultValue (g_ty a) := by
    subst hQ
    cases at' <;> first | exact ⟨rfl, fun _ => rfl⟩ | (exfalso; revert ha; decide)
  obtain ⟨rfl, hdv⟩ := hat
  unfold s_q29 at h
  split at h
  next x rest =>
    split at h
    next n e1 =>
      obtain ⟨h1, h⟩ := s_bif h
      simp only [Bool.and_eq_true, decide_eq_true_eq] at h1
      obtain ⟨h0, h65, hb1, hb2⟩ := h1
      obtain ⟨z1, z2, z3⟩ := s_k32 h0 h65
      have hcc : ∀ ρ', s_cc σ ρ' b (true, a, n.toNat, s_dva a, []) = s_cc σ ρ b (true, a, n.toNat, s_dva a, []) := by
        intro ρ'
        unfold s_cc
        congr 3
        funext j
        show s_cv σ ρ' b (s_dva a) = s_cv σ ρ b (s_dva a)
        match a, ha with
        | 0, _ => rfl
        | 1, _ => rfl
        | 2, _ => rfl
        | 3, _ => rfl
      have k1 := s_mk_ok (ρ := ρ) (b := b) (P := P) hok hgo h hP hcc
      have hcell : s_cc σ ρ b (true, a, n.toNat, s_dva a, []) = (true, a, n.toNat, fun _ => defaultValue (g_ty a)) := by
        unfold s_cc
        congr 3
        funext j
        exact hdv j
      rw [hcell] at k1
      refine hcl _ ⟨_, _, hd, Or.inr (Or.inr (Or.inr (Or.inl (Or.inr (Or.inr (Or.inr (Or.inr (Or.inr (Or.inr (Or.inr (Or.inr (Or.inr (Or.inr (Or.inr (Or.inr (Or.inl ⟨a, Int32.ofInt n, n.toNat, rest.map (s_cv σ ρ b), rfl, rfl, ha, ?_, z1, z2, z3, Nat.le_of_ble_eq_true hb1, Nat.le_of_ble_eq_true hb2, k1⟩))))))))))))))))⟩
      show s_cv σ ρ b x :: _ = _
      rw [s_k_eq hok e1]
    next => cases h
  next => cases h
theorem s_q30_ok (hcl : ∀ S, g_pre CALL o nL ini bc bs cc P S → P S) {i kd a b0 : Nat} {v0 : Int} (hok : s_ok xs σ M) (hd : decode cc pc = .ok (.anewarray i, 3)) (hgo : s_pc t = pc + 3) (hlk : s_lkd o i kd a b0 v0) (h : s_q30 bc bs t L st cn sn M kd a = some (.inr X')) (hP : s_hP P xs b σ ρ M X') : P (pc, s_cL σ ρ b L, st.map (s_cv σ ρ b), cn, sn, s_ch σ ρ b 0 M.2.2.2) := by
  obtain ⟨ps, hlk⟩ := hlk
  unfold s_q30 at h
  split at h
  next x rest =>
    split at h
    next n e1 =>
      obtain ⟨h1, h9⟩ := s_bif h
      clear h
      simp only [Bool.and_eq_true, decide_eq_true_eq, Nat.beq_eq] at h1
      obtain ⟨h0, h65, hb1, hb2, rfl, rfl⟩ := h1
      obtain ⟨z1, z2, z3⟩ := s_k32 h0 h65
      have k1 := s_mk_ok (ρ := ρ) (b := b) (P := P) hok hgo h9 hP (fun ρ' => rfl)
      have hcell : s_cc σ ρ b (true, 4, n.toNat, (4, 0), []) = (true, 4, n.toNat, fun _ => .null) := rfl
      rw [hcell] at k1
      refine hcl _ ⟨_, _, hd, Or.inr (Or.inr (Or.inr (Or.inl (Or.inr (Or.inr (Or.inr (Or.inr (Or.inr (Or.inr (Or.inr (Or.inr (Or.inr (Or.inr (Or.inr (Or.inr (Or.inr (Or.inl ⟨_, _, Int32.ofInt n, n.toNat, rest.map (s_cv σ ρ b), _, _, rfl, rfl, hlk, ?_, z1, z2, z3, Nat.le_of_ble_eq_true hb1, Nat.le_of_ble_eq_true hb2, k1⟩)))))))))))))))))⟩
      show s_cv σ ρ b x :: _ = _
      rw [s_k_eq hok e1]
    next => cases h
  next => cases h
/-- new objects' fields -/
def s_dfok (ft : s_FT) : Prop := ∀ a, a < g_fl.length → ∀ (σ : Nat → Int) (ρ : Nat → Nat) (b j : Nat), s_cv σ ρ b (s_lk (s_dfl 0 (ft.getD a [])) j (0, 0)) = defaultValue ((parseFieldDescriptor (g_fd a j).1).getD .int)
theorem s_q31_ok (hcl : ∀ S, g_pre CALL o nL ini bc bs cc P S → P S) {ft : s_FT} (hdf : s_dfok ft) {i kd a b0 : Nat} {v0 : Int} (hok : s_ok xs σ M) (hd : decode cc pc = .ok (.new i, 3)) (hgo : s_pc t = pc + 3) (hlk : s_lkd o i kd a b0 v0) (h : s_q31 ft bc bs t L st cn sn M kd a b0 = some (.inr X')) (hP : s_hP P xs b σ ρ M X') : P (pc, s_cL σ ρ b L, st.map (s_cv σ ρ b), cn, sn, s_ch σ ρ b 0 M.2.2.2) := by
  obtain ⟨ps, hlk⟩ := hlk
  unfold s_q31 at h
  obtain ⟨h1, h9⟩ := s_bif h
  clear h
  simp only [Bool.and_eq_true, Nat.beq_eq] at h1
  obtain ⟨hb1, hb2, rfl⟩ := h1
  have hn0 := (g_lk_in hlk).2
  simp only [g_lkn, Bool.and_eq_true, decide_eq_true_eq, beq_iff_eq] at hn0
  have hcell : ∀ ρ', s_cc σ ρ' b (false, a, b0, (0, 0), s_dfl 0 (ft.getD a [])) = (false, a, b0, fun j => defaultValue ((parseFieldDescriptor (g_fd a j).1).getD .int)) := by
    intro ρ'
    unfold s_cc
    congr 3
    funext j
    exact hdf a hn0.1 σ ρ' b j
  have k1 := s_mk_ok (ρ := ρ) (b := b) (P := P) hok hgo h9 hP (fun ρ' => (hcell ρ').trans (hcell ρ).symm)
  rw [hcell] at k1
  exact hcl _ ⟨_, _, hd, Or.inr (Or.inr (Or.inr (Or.inl (Or.inr (Or.inr (Or.inr (Or.inr (Or.inr (Or.inr (Or.inr (Or.inr (Or.inr (Or.inr (Or.inr (Or.inr (Or.inr (Or.inr ⟨_, _, _, _, _, rfl, rfl, hlk, Nat.le_of_ble_eq_true hb1, Nat.le_of_ble_eq_true hb2, k1⟩)))))))))))))))))⟩
end S23
end
