-- the plain machine's steps are the Java machine's
theorem g_me_mem {j : Nat} (h : j < g_mt.length) : g_me j ∈ g_mt := by
  unfold g_me
  rw [List.getD_eq_getElem?_getD, List.getElem?_eq_getElem h]
  exact List.getElem_mem h
/-- what the checks say of a method -/
theorem g_me_ok {j : Nat} (h : j < g_mt.length) : Cond.code (g_y j) (g_by j) (g_nl j) (g_rt j) ∈ g_wsl ∧ (g_y j).cls = g_cn (g_me j).2.1 ∧ plainFor (g_y j) = true ∧ ((g_y j).cls ≠ "java/lang/invoke/MethodHandle" ∧ (g_y j).cls ≠ "java/lang/invoke/VarHandle") ∧ (parseMethodDescriptor (g_y j).desc).map (fun d => d.parameters.length) = some (g_me j).2.2 ∧ g_nl j ≤ 100 := by
  have h1 := List.all_eq_true.mp g_mt_ok _ (g_me_mem h)
  simp only [g_mtok, Bool.and_eq_true, decide_eq_true_eq, beq_iff_eq] at h1
  obtain ⟨⟨⟨⟨⟨⟨a1, a2⟩, a3⟩, a4⟩, a5⟩, a6⟩, a7⟩ := h1
  exact ⟨List.mem_filter.mpr ⟨List.mem_append_right _ (g_isc_in a1), a7⟩, a2, a3, a4, a5, a6⟩
theorem g_lk_in {r : g_LK} (h : r ∈ g_lk) : (∀ w ∈ g_wd r.1 r.2.1 r.2.2.1 r.2.2.2.1 r.2.2.2.2.1 r.2.2.2.2.2.1, w ∈ g_wsl ∨ w ∈ g_nsl) ∧ g_lkn r = true := by
  have h1 := List.all_eq_true.mp g_lk_ok r h
  simp only [g_lkok, Bool.and_eq_true, decide_eq_true_eq] at h1
  obtain ⟨⟨a1, a2⟩, a3⟩ := h1
  refine ⟨fun w hw => ?_, a3⟩
  have h2 := List.all_eq_true.mp a2 w hw
  rw [a1] at hw
  obtain ⟨i, -, hi⟩ := List.mem_filterMap.mp hw
  rw [lw_tb_eq] at hi
  have hm := List.mem_of_getElem? hi
  rcases (Bool.or_eq_true _ _).mp h2 with h3 | h3
  · exact Or.inl (List.mem_filter.mpr ⟨hm, h3⟩)
  · exact Or.inr (List.mem_filter.mpr ⟨hm, h3⟩)
theorem g_cl_at {ci : Nat} (h : ci < g_fl.length) : g_cl[ci]? = some (g_cn ci, g_TT (g_fl.getD ci ("", [])), (g_fl.getD ci ("", [])).2.length) := by
  have hl : ci < g_cl.length := by rw [g_cl, List.length_map]; exact h
  have h1 := List.all_eq_true.mp g_cn_ok ci (List.mem_range.mpr hl)
  have h2 : g_cl[ci]? = some ((g_fl.getD ci ("", [])).1, g_TT (g_fl.getD ci ("", [])), (g_fl.getD ci ("", [])).2.length) := by
    rw [g_cl, List.getElem?_map, List.getD_eq_getElem?_getD, List.getElem?_eq_getElem h]
    rfl
  rw [h2] at h1
  rw [h2]
  simp only [Bool.and_eq_true, beq_iff_eq] at h1
  rw [h1.1]
theorem g_tw_at {dA : Nat → ClassId} {h : g_H} {q a : Nat} {c : g_HC} (e : g_get h q = some (a, c)) : (g_tw dA h)[q]? = some (a, g_tr dA c) := by
  unfold g_tw
  rw [List.getElem?_map]
  have e' : h[q]? = some (a, c) := e
  rw [e']
  rfl
theorem g_tw_set {dA : Nat → ClassId} {h : g_H} {q a : Nat} {c : g_HC} : g_tw dA (h.set q (a, c)) = (g_tw dA h).set q (a, g_tr dA c) := by
  unfold g_tw
  rw [List.map_set]
theorem g_tw_app {dA : Nat → ClassId} {h : g_H} {a : Nat} {c : g_HC} : g_tw dA (h ++ [(a, c)]) = g_tw dA h ++ [(a, g_tr dA c)] := by
  unfold g_tw
  rw [List.map_append]
  rfl
/-- what the tables say, as contracts hand it on -/
def g_K4 (D : va_G) (dA : Nat → ClassId) (U : State) : Prop := va_K D g_cl (g_tys dA) U ∧ va_AO g_bu U ∧ ∀ w ∈ g_nsl, va_Nw w U
theorem g_K4.moved {D : va_G} {dA : Nat → ClassId} {u U : State} (hW : u.WarmedH U.vm) (h : g_K4 D dA u) : g_K4 D dA U := by
  refine ⟨va_K.moved hW.alike h.1, va_AO.moved hW.alike h.2.1, fun w hw => ?_⟩
  have h1 := h.2.2 w hw
  have h2 := (List.mem_filter.mp hw).2
  cases w <;> simp only [g_isn, Bool.false_eq_true] at h2
  · exact va_Nw.warmM hW h1
  · exact va_Nw.warmF hW h1
theorem g_K4.same {D : va_G} {dA : Nat → ClassId} {u U : State} (e : u.vm = U.vm) (h : g_K4 D dA u) : g_K4 D dA U := by
  refine ⟨va_K.moved (by rw [e]; exact Vm.Alike.refl U.vm) h.1, va_AO.moved (by rw [e]; exact Vm.Alike.refl U.vm) h.2.1, fun w hw => va_Nw.same (g_nst (List.mem_filter.mp hw).2) e (h.2.2 w hw)⟩
theorem g_wds {D : va_G} {dA : Nat → ClassId} {s : State} {args : Array Value} (hts : ∀ w ∈ g_wsl, w.before args s = true) (hK : g_K4 D dA s) {r : g_LK} (h : r ∈ g_lk) : ∀ w ∈ g_wd r.1 r.2.1 r.2.2.1 r.2.2.2.1 r.2.2.2.2.1 r.2.2.2.2.2.1, w.before args s = true := by
  intro w hw
  rcases (g_lk_in h).1 w hw with h1 | h1
  · exact hts w h1
  · exact va_Nw.use (g_nst (List.mem_filter.mp h1).2) (hK.2.2 w h1)
def g_Cx (p : Program) (s : State) (m : MethodId) (args : Array Value) (meth : Method) (c : Code) (cc : ByteArray) (o nL : Nat) (ini : Bool) (D : va_G) (dA : Nat → ClassId) : Prop :=
  p.tables.exec = Jvm.exec ∧ c.code = cc ∧ c.maxLocals = nL ∧ s.vm.findClass (g_cn o) = some m.cls ∧ (∀ w ∈ g_wsl, w.before args s = true) ∧ g_K4 D dA s ∧ (ini = true → meth.name = "<init>")
def g_G (p : Program) (l : Launch) (e : Env) (R : Room) (s : State) (m : MethodId) (args : Array Value) (below : List Frame) (meth : Method) (c : Code) (nL : Nat) (D : va_G) (dA : Nat → ClassId) (A : Nat → Prop) (H0 : Heap) (Q : State → Prop) (S : g_S) : Prop :=
  ∀ (ls : Array Slot) (H : Heap) (locs : List Loc), lv_has ls nL S.2.1 → va_P D g_cl (g_tw dA S.2.2.2.2.2) H → va_D A (g_tw dA S.2.2.2.2.2) → va_S A H0 H locs → W p l e R s m args below meth c H locs S.2.2.2.1 S.2.2.2.2.1 Q (F0 m S.1 ls S.2.2.1)
section G6
variable {p : Program} {l : Launch} {e : Env} {R : Room} {s : State} {m : MethodId} {args : Array Value} {below : List Frame} {meth : Method} {c : Code} {cc : ByteArray} {o nL : Nat} {ini : Bool} {D : va_G} {dA : Nat → ClassId} {A : Nat → Prop} {H0 : Heap} {Q : State → Prop}
variable {ins : Instr} {len pc : Nat} {L : g_L} {st : List Value} {w : g_W}
theorem g_sA (C : g_Cx p s m args meth c cc o nL ini D dA) (hdg : decode cc pc = .ok (ins, len)) (h : g_doA o nL ins len pc L st w (g_G p l e R s m args below meth c nL D dA A H0 Q)) : g_G p l e R s m args below meth c nL D dA A H0 Q (pc, L, st, w) := by
  obtain ⟨hx, hb, hml, hown, hts, hK4, hin⟩ := C
  have hK := hK4.1
  intro ls H locs hl hP hD hS
  rcases h with ⟨v, e1, k⟩ | ⟨i, t, v, e1, hm, ht, k⟩ | ⟨i, t, v, rest, e1, e2, ht, hi, k⟩ | ⟨i, t, v, rest, e1, e2, ht, hi, k⟩ | ⟨i, n, x, rfl, hlen, hm, hi, k⟩ | ⟨v, rest, rfl, rfl, e2, hv, k⟩ | ⟨v, rest, rfl, rfl, e2, hv, k⟩ | ⟨v, u, rest, rfl, rfl, e2, hv, hu, k⟩ | ⟨v, u, rest, rfl, rfl, e2, hv, hu, k⟩ | ⟨v, rest, rfl, rfl, e2, hv, k⟩ | ⟨i, kd, a0, b0, v, ps, e1, hlk, k⟩ | ⟨i, kd, a0, b0, v, ps, rfl, rfl, hkd, hlk, k⟩
  · cases ins <;> simp only [g_con, reduceCtorEq, Option.some.injEq, Prod.mk.injEq] at e1 <;> obtain ⟨rfl, rfl⟩ := e1
    · exact lv_null hx hb hdg (k ls H locs hl hP hD hS)
    · exact lv_bipush hx hb hdg rfl (k ls H locs hl hP hD hS)
    · exact lv_iconst hx hb hdg rfl (k ls H locs hl hP hD hS)
    · exact lv_lconst hx hb hdg rfl (k ls H locs hl hP hD hS)
    · exact lv_sipush hx hb hdg rfl (k ls H locs hl hP hD hS)
  · cases ins <;> simp only [g_load, reduceCtorEq, Option.some.injEq, Prod.mk.injEq] at e1 <;> obtain ⟨rfl, rfl, rfl⟩ := e1 <;> cases v <;> simp only [Bool.false_eq_true] at ht
    · exact lv_aloadN hx hb hdg (hl.2.2 _ hm) (k ls H locs hl hP hD hS)
    · exact lv_aload hx hb hdg (hl.2.2 _ hm) (k ls H locs hl hP hD hS)
    · exact lv_aload_nN hx hb hdg rfl (hl.2.2 _ hm) (k ls H locs hl hP hD hS)
    · exact lv_aload_n hx hb hdg rfl (hl.2.2 _ hm) (k ls H locs hl hP hD hS)
    · exact lv_dload_n hx hb hdg rfl (hl.2.2 _ hm) (k ls H locs hl hP hD hS)
    · exact lv_iload hx hb hdg (hl.2.2 _ hm) (k ls H locs hl hP hD hS)
    · exact lv_iload_n hx hb hdg rfl (hl.2.2 _ hm) (k ls H locs hl hP hD hS)
    · exact lv_lload hx hb hdg (hl.2.2 _ hm) (k ls H locs hl hP hD hS)
    · exact lv_lload_n hx hb hdg rfl (hl.2.2 _ hm) (k ls H locs hl hP hD hS)
  · cases e2
    cases ins <;> simp only [g_stor, reduceCtorEq, Option.some.injEq, Prod.mk.injEq, Bool.false_eq_true, Bool.true_eq_false, false_and, and_false] at e1 <;> obtain ⟨rfl, rfl, -, rfl⟩ := e1 <;> cases v <;> simp only [Bool.false_eq_true] at ht
    · exact lv_astoreN hx hb hdg hl hi rfl (fun ls' hl' => k ls' H locs hl' hP hD hS)
    · exact lv_astore hx hb hdg hl hi rfl (fun ls' hl' => k ls' H locs hl' hP hD hS)
    · exact lv_astore_nN hx hb hdg rfl hl hi rfl (fun ls' hl' => k ls' H locs hl' hP hD hS)
    · exact lv_astore_n hx hb hdg rfl hl hi rfl (fun ls' hl' => k ls' H locs hl' hP hD hS)
    · exact lv_istore hx hb hdg hl hi rfl (fun ls' hl' => k ls' H locs hl' hP hD hS)
    · exact lv_istore_n hx hb hdg rfl hl hi rfl (fun ls' hl' => k ls' H locs hl' hP hD hS)
  · cases e2
    cases ins <;> simp only [g_stor, reduceCtorEq, Option.some.injEq, Prod.mk.injEq, Bool.false_eq_true, Bool.true_eq_false, false_and, and_false] at e1 <;> obtain ⟨rfl, rfl, -, rfl⟩ := e1 <;> cases v <;> simp only [Bool.false_eq_true] at ht
    · exact lv_dstore_n hx hb hdg rfl hl hi rfl (fun ls' hl' => k ls' H locs hl' hP hD hS)
    · exact lv_lstore hx hb hdg hl hi rfl (fun ls' hl' => k ls' H locs hl' hP hD hS)
    · exact lv_lstore_n hx hb hdg rfl hl hi rfl (fun ls' hl' => k ls' H locs hl' hP hD hS)
  · obtain ⟨q, hq⟩ := List.getElem?_of_mem hm
    rcases hlen with rfl | rfl
    · exact lv_iinc hx hb hdg hl hq rfl hi rfl (fun ls' hl' => k ls' H locs hl' hP hD hS)
    · exact lv_iincW hx hb hdg hl hq rfl hi rfl (fun ls' hl' => k ls' H locs hl' hP hD hS)
  · cases e2
    exact lv_dup hx hb hdg hv (k ls H locs hl hP hD hS)
  · cases e2
    exact lv_pop hx hb hdg hv (k ls H locs hl hP hD hS)
  · cases e2
    exact lv_dup_x1 hx hb hdg hv hu (k ls H locs hl hP hD hS)
  · cases e2
    exact lv_dup2_11 hx hb hdg hv hu (k ls H locs hl hP hD hS)
  · cases e2
    exact lv_dup2_2 hx hb hdg hv (k ls H locs hl hP hD hS)
  · have hw := g_wds hts hK4 hlk
    cases ins <;> simp only [g_ldc, reduceCtorEq, Option.some.injEq, Prod.mk.injEq] at e1 <;> obtain ⟨rfl, rfl, rfl⟩ := e1
    · exact lv_ldc hx hb hown (hw _ List.mem_cons_self) hdg (k ls H locs hl hP hD hS)
    · exact lv_ldcw hx hb hown (hw _ List.mem_cons_self) hdg (k ls H locs hl hP hD hS)
  · have hw := g_wds hts hK4 hlk
    rcases hkd with rfl | rfl
    · exact lv_ldc2 hx hb hown (hw _ List.mem_cons_self) hdg (k ls H locs hl hP hD hS)
    · exact lv_ldc2d hx hb hown (hw _ List.mem_cons_self) hdg (k ls H locs hl hP hD hS)
theorem g_sB (C : g_Cx p s m args meth c cc o nL ini D dA) (hdg : decode cc pc = .ok (ins, len)) (h : g_doB ins len pc L st w (g_G p l e R s m args below meth c nL D dA A H0 Q)) : g_G p l e R s m args below meth c nL D dA A H0 Q (pc, L, st, w) := by
  obtain ⟨hx, hb, hml, hown, hts, hK4, hin⟩ := C
  have hK := hK4.1
  intro ls H locs hl hP hD hS
  rcases h with ⟨f, x, y, rest, e1, rfl, e2, k⟩ | ⟨f, x, y, rest, e1, rfl, hne, e2, k⟩ | ⟨f, x, rest, e1, rfl, e2, k⟩ | ⟨f, x, y, rest, e1, rfl, e2, k⟩ | ⟨f, x, y, rest, e1, rfl, hne, e2, k⟩ | ⟨x, rest, rfl, rfl, e2, k⟩ | ⟨x, y, rest, rfl, rfl, e2, k⟩ | ⟨x, rest, rfl, rfl, e2, k⟩ | ⟨x, rest, rfl, rfl, e2, k⟩ | ⟨x, rest, rfl, rfl, e2, k⟩ | ⟨x, y, rest, rfl, rfl, hn, e2, k⟩ | ⟨x, y, rest, rfl, rfl, hn, e2, k⟩ | ⟨op, x, y, rest, rfl, rfl, e2, k⟩
  · cases e2
    cases ins <;> simp only [g_ib, reduceCtorEq, Option.some.injEq] at e1 <;> subst e1
    · exact lv_iadd hx hb hdg (k ls H locs hl hP hD hS)
    · exact lv_iand hx hb hdg (k ls H locs hl hP hD hS)
    · exact lv_imul hx hb hdg (k ls H locs hl hP hD hS)
    · exact lv_ior hx hb hdg (k ls H locs hl hP hD hS)
    · exact lv_ishl hx hb hdg (k ls H locs hl hP hD hS)
    · exact lv_ishr hx hb hdg (k ls H locs hl hP hD hS)
    · exact lv_isub hx hb hdg (k ls H locs hl hP hD hS)
    · exact lv_iushr hx hb hdg rfl (k ls H locs hl hP hD hS)
    · exact lv_ixor hx hb hdg (k ls H locs hl hP hD hS)
  · cases e2
    cases ins <;> simp only [g_id, reduceCtorEq, Option.some.injEq] at e1 <;> subst e1
    · exact lv_idiv hx hb hdg hne (k ls H locs hl hP hD hS)
    · exact lv_irem hx hb hdg hne (k ls H locs hl hP hD hS)
  · cases e2
    cases ins <;> simp only [g_iu, reduceCtorEq, Option.some.injEq] at e1 <;> subst e1
    · exact lv_i2b hx hb hdg rfl (k ls H locs hl hP hD hS)
    · exact lv_i2s hx hb hdg rfl (k ls H locs hl hP hD hS)
    · exact lv_ineg hx hb hdg (k ls H locs hl hP hD hS)
  · cases e2
    cases ins <;> simp only [g_lb, reduceCtorEq, Option.some.injEq] at e1 <;> subst e1
    · exact lv_ladd hx hb hdg (k ls H locs hl hP hD hS)
    · exact lv_lmul hx hb hdg (k ls H locs hl hP hD hS)
    · exact lv_lsub hx hb hdg (k ls H locs hl hP hD hS)
  · cases e2
    cases ins <;> simp only [g_ld, reduceCtorEq, Option.some.injEq] at e1 <;> subst e1
    · exact lv_ldiv hx hb hdg hne (k ls H locs hl hP hD hS)
    · exact lv_lrem hx hb hdg hne (k ls H locs hl hP hD hS)
  · cases e2
    exact lv_lneg hx hb hdg (k ls H locs hl hP hD hS)
  · cases e2
    exact W.lcmp hx hb hdg (k ls H locs hl hP hD hS)
  · cases e2
    exact lv_i2l hx hb hdg rfl (k ls H locs hl hP hD hS)
  · cases e2
    exact lv_l2i hx hb hdg rfl (k ls H locs hl hP hD hS)
  · cases e2
    exact lv_i2d hx hb hdg (k ls H locs hl hP hD hS)
  · cases e2
    exact lv_ddiv hx hb hdg hn (k ls H locs hl hP hD hS)
  · cases e2
    exact lv_dmul hx hb hdg hn (k ls H locs hl hP hD hS)
  · cases e2
    exact lv_dcmp hx hb hdg (k ls H locs hl hP hD hS)
theorem g_sC (C : g_Cx p s m args meth c cc o nL ini D dA) (hdg : decode cc pc = .ok (ins, len)) (h : g_doC ins len pc L st w (g_G p l e R s m args below meth c nL D dA A H0 Q)) : g_G p l e R s m args below meth c nL D dA A H0 Q (pc, L, st, w) := by
  obtain ⟨hx, hb, hml, hown, hts, hK4, hin⟩ := C
  have hK := hK4.1
  intro ls H locs hl hP hD hS
  rcases h with ⟨off, tgt, rfl, rfl, ht, k⟩ | ⟨cd, off, tgt, x, rest, rfl, rfl, ht, e2, k⟩ | ⟨cd, off, tgt, x, y, rest, rfl, rfl, ht, e2, k⟩ | ⟨off, tgt, a, rest, rfl, rfl, ht, ⟨e2, k⟩ | ⟨e2, k⟩⟩ | ⟨off, tgt, a, rest, rfl, rfl, ht, ⟨e2, k⟩ | ⟨e2, k⟩⟩ | ⟨dflt, lo, hi, offs, x, rest, off, tgt, rfl, e2, ht, hsw, k⟩
  · exact lv_goto hx hb hdg ht (k ls H locs hl hP hD hS)
  · cases e2
    cases cd <;> simp only [g_c1, decide_eq_true_eq] at k
    · exact lv_if_eq hx hb hdg ht (fun h => by rw [if_pos h] at k; exact k ls H locs hl hP hD hS) (fun h => by rw [if_neg h] at k; exact k ls H locs hl hP hD hS)
    · exact lv_if_ne hx hb hdg ht (fun h => by rw [if_pos h] at k; exact k ls H locs hl hP hD hS) (fun h => by rw [if_neg (not_not_intro h)] at k; exact k ls H locs hl hP hD hS)
    · exact lv_if_lt hx hb hdg ht (fun h => by rw [if_pos h] at k; exact k ls H locs hl hP hD hS) (fun h => by rw [if_neg h] at k; exact k ls H locs hl hP hD hS)
    · exact lv_if_ge hx hb hdg ht (fun h => by rw [if_pos h] at k; exact k ls H locs hl hP hD hS) (fun h => by rw [if_neg h] at k; exact k ls H locs hl hP hD hS)
    · exact lv_if_gt hx hb hdg ht (fun h => by rw [if_pos h] at k; exact k ls H locs hl hP hD hS) (fun h => by rw [if_neg h] at k; exact k ls H locs hl hP hD hS)
    · exact lv_if_le hx hb hdg ht (fun h => by rw [if_pos h] at k; exact k ls H locs hl hP hD hS) (fun h => by rw [if_neg h] at k; exact k ls H locs hl hP hD hS)
  · cases e2
    cases cd <;> simp only [g_c2, decide_eq_true_eq] at k
    · exact lv_icmp_eq hx hb hdg ht (fun h => by rw [if_pos h] at k; exact k ls H locs hl hP hD hS) (fun h => by rw [if_neg h] at k; exact k ls H locs hl hP hD hS)
    · exact lv_icmp_ne hx hb hdg ht (fun h => by rw [if_pos h] at k; exact k ls H locs hl hP hD hS) (fun h => by rw [if_neg (not_not_intro h)] at k; exact k ls H locs hl hP hD hS)
    · exact lv_icmp_lt hx hb hdg ht (fun h => by rw [if_pos h] at k; exact k ls H locs hl hP hD hS) (fun h => by rw [if_neg h] at k; exact k ls H locs hl hP hD hS)
    · exact lv_icmp_ge hx hb hdg ht (fun h => by rw [if_pos h] at k; exact k ls H locs hl hP hD hS) (fun h => by rw [if_neg h] at k; exact k ls H locs hl hP hD hS)
    · exact lv_icmp_gt hx hb hdg ht (fun h => by rw [if_pos h] at k; exact k ls H locs hl hP hD hS) (fun h => by rw [if_neg h] at k; exact k ls H locs hl hP hD hS)
    · exact lv_icmp_le hx hb hdg ht (fun h => by rw [if_pos h] at k; exact k ls H locs hl hP hD hS) (fun h => by rw [if_neg h] at k; exact k ls H locs hl hP hD hS)
  · cases e2
    exact lv_ifnullN hx hb hdg ht (k ls H locs hl hP hD hS)
  · cases e2
    exact lv_ifnull hx hb hdg (k ls H locs hl hP hD hS)
  · cases e2
    exact lv_ifnonnullN hx hb hdg (k ls H locs hl hP hD hS)
  · cases e2
    exact lv_ifnonnull hx hb hdg ht (k ls H locs hl hP hD hS)
  · cases e2
    rcases hsw with ⟨h1, h2, h3⟩ | ⟨h1, rfl⟩
    · exact lv_tableIn hx hb hdg h1 h2 h3 ht (k ls H locs hl hP hD hS)
    · exact lv_tableOut hx hb hdg h1 ht (k ls H locs hl hP hD hS)
end G6
