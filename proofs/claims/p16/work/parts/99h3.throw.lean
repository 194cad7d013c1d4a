-- methods of the class that may throw: of, row
def x_at : List Cond := x_atS "GreenGears" 167
def x_isn : Cond → Bool
  | .declares _ => true
  | .castable _ _ => true
  | _ => false
def x_nsl : List Cond := lw_tbl.filter x_isn
theorem x_nst {w : Cond} (h : x_isn w = true) : w.onTables = true := by
  cases w <;> first | rfl | (simp [x_isn] at h)
set_option maxRecDepth 100000 in
theorem x_at_ok : x_at.all (fun w => decide (w ∈ lw_tbl) && (goodWord w || x_isn w)) = true := by decide +kernel
set_option maxRecDepth 100000 in
theorem x_gd_ok : (Cond.classLink "GreenGears" 163 x_E :: Cond.initialized x_E :: x_at).all vx_ot = true := by decide +kernel
set_option maxRecDepth 100000 in
theorem x_w_ok : [Cond.classLink "GreenGears" 163 x_E, Cond.initialized x_E, Cond.classLink "GreenGearsLaw" 13 x_E].all (fun w => decide (w ∈ lw_tbl) && goodWord w) = true := by decide +kernel
theorem x_w_in {w : Cond} (h : w ∈ [Cond.classLink "GreenGears" 163 x_E, Cond.initialized x_E, Cond.classLink "GreenGearsLaw" 13 x_E]) : w ∈ g_wsl := by
  have h1 := List.all_eq_true.mp x_w_ok w h
  rw [Bool.and_eq_true] at h1
  exact List.mem_filter.mpr ⟨of_decide_eq_true h1.1, h1.2⟩
def x_K (U : State) : Prop := (∀ w ∈ x_nsl, va_Nw w U) ∧ (∃ sa, vk_R "GreenGears" 165 "no such wheel" sa U) ∧ (∃ sa, vk_R "GreenGears" 428 "no such number of the row" sa U) ∧ ∃ sa, vk_R "GreenGears" 176 "nothing of that kind" sa U
theorem x_K.moved {u U : State} (hW : u.WarmedH U.vm) (h : x_K u) : x_K U := by
  refine ⟨fun w hw => ?_, ?_, ?_, ?_⟩
  · have h1 := h.1 w hw
    have h2 := (List.mem_filter.mp hw).2
    cases w <;> simp only [x_isn, Bool.false_eq_true] at h2
    · exact va_Nw.warmD hW h1
    · exact va_Nw.warmC hW h1
  · obtain ⟨sa, h1⟩ := h.2.1
    exact ⟨sa, vk_R.warm hW h1⟩
  · obtain ⟨sa, h1⟩ := h.2.2.1
    exact ⟨sa, vk_R.warm hW h1⟩
  · obtain ⟨sa, h1⟩ := h.2.2.2
    exact ⟨sa, vk_R.warm hW h1⟩
theorem x_K.same {u U : State} (e : u.vm = U.vm) (h : x_K u) : x_K U := by
  refine ⟨fun w hw => va_Nw.same (x_nst (List.mem_filter.mp hw).2) e (h.1 w hw), ?_, ?_, ?_⟩
  · obtain ⟨sa, h1⟩ := h.2.1
    exact ⟨sa, vk_R.same e.symm h1⟩
  · obtain ⟨sa, h1⟩ := h.2.2.1
    exact ⟨sa, vk_R.same e.symm h1⟩
  · obtain ⟨sa, h1⟩ := h.2.2.2
    exact ⟨sa, vk_R.same e.symm h1⟩
def x_Z (A : Nat → Prop) (U : State) (H : Heap) : Prop := vx_Zq Bundle.tN "UNASSIGNED_STACK" Bundle.steD A U H ∧ vx_Zq Bundle.tN "SUPPRESSED_SENTINEL" Bundle.listD A U H
theorem x_Z.moved {A : Nat → Prop} {u U : State} {H : Heap} (hvm : u.vm.Alike U.vm) (h : x_Z A u H) : x_Z A U H := ⟨h.1.moved hvm, h.2.moved hvm⟩
theorem x_Z.kept {A : Nat → Prop} {U : State} {H H1 : Heap} (h : x_Z A U H) (hq : ∀ a : Nat, a < H.size → ¬ A a → H1[a]? = H[a]?) : x_Z A U H1 := ⟨h.1.kept hq, h.2.kept hq⟩
theorem x_Z.narrow {A B : Nat → Prop} {U : State} {H : Heap} (h : x_Z A U H) (hAB : ∀ q, B q → A q) : x_Z B U H := ⟨h.1.narrow hAB, h.2.narrow hAB⟩
/-- the start: the plain machine's, and what a throw needs -/
def x_Pc (D : va_G) (dA : Nat → ClassId) (as : List Value) (h : g_H) (sz : Nat) : Array Value → State → Prop := va_Pc as (fun U => U.heap.size = sz ∧ va_P D g_cl (g_tw dA h) U.heap ∧ g_K4 D dA U ∧ va_D (fun _ => True) (g_tw dA h) ∧ x_K U ∧ x_Z (va_A (g_tw dA h) sz) U U.heap)
theorem x_blind {D : va_G} {dA : Nat → ClassId} {as : List Value} {h : g_H} {sz : Nat} : FrameBlind (x_Pc D dA as h sz) := by
  intro a U g mk q
  obtain ⟨q0, q1, qP, qK, qD, qX, qZ⟩ := q
  exact ⟨q0, q1, qP, g_K4.same (u := U) (U := U.calling g mk a) rfl qK, qD, x_K.same (u := U) (U := U.calling g mk a) rfl qX, x_Z.moved (u := U) (U := U.calling g mk a) (Vm.Alike.refl U.vm) qZ⟩
/-- the end with a throw -/
def x_XC (D : va_G) (dA : Nat → ClassId) (h : g_H) (sz : Nat) (post : g_H → Prop) : String → State → State → Prop := fun E st t => E = x_E ∧ (∃ h', post h' ∧ va_P D g_cl (g_tw dA h') t.heap ∧ va_D (va_A (g_tw dA h) sz) (g_tw dA h')) ∧ va_F (va_A (g_tw dA h) sz) st t
theorem x_hat {args : Array Value} {s : State} (hts : ∀ w ∈ g_wsl, w.before args s = true) (hK : x_K s) : ∀ w ∈ x_at, w.before args s = true := by
  intro w hw
  have h1 := List.all_eq_true.mp x_at_ok w hw
  rw [Bool.and_eq_true, Bool.or_eq_true] at h1
  rcases h1.2 with h2 | h2
  · exact hts w (List.mem_filter.mpr ⟨of_decide_eq_true h1.1, h2⟩)
  · exact va_Nw.use (x_nst h2) (hK.1 w (List.mem_filter.mpr ⟨of_decide_eq_true h1.1, h2⟩))
/-- the throw leaves the world as it is -/
theorem x_hx {D : va_G} {dA : Nat → ClassId} {h h' : g_H} {s : State} {H : Heap} {locs : List Loc} {post : g_H → Prop} (hp : post h') (hP : va_P D g_cl (g_tw dA h') H) (hD : va_D (va_A (g_tw dA h) s.heap.size) (g_tw dA h')) (hS : va_S (va_A (g_tw dA h) s.heap.size) s.heap H locs) :
    ∀ t : State, s.vm.Alike t.vm → H.size ≤ t.heap.size → (∀ q : Nat, q < H.size → t.heap[q]? = H[q]?) → x_XC D dA h s.heap.size post x_E s t := by
  intro t _ hsz hk
  refine ⟨rfl, ⟨h', hp, hP.kept (fun k q hq => hk q.1 (hP k q hq).lt), hD⟩, Nat.le_trans hS.1 hsz, fun q h1 h2 => ?_⟩
  rw [hk q (Nat.lt_of_lt_of_le h1 hS.1)]
  exact hS.2.1 q h1 h2
set_option maxRecDepth 100000 in
theorem x_of_d : decode (g_by 208) 11 = .ok (.new 163, 3) ∧ decode (g_by 208) 14 = .ok (.dup, 1) ∧ decode (g_by 208) 15 = .ok (.ldc 165, 2) ∧ decode (g_by 208) 17 = .ok (.invokespecial 167, 3) ∧ decode (g_by 208) 20 = .ok (.athrow, 1) ∧ (decode (g_by 208) 114 = .ok (.new 163, 3) ∧ decode (g_by 208) 117 = .ok (.dup, 1) ∧ decode (g_by 208) 118 = .ok (.ldc 176, 2) ∧ decode (g_by 208) 120 = .ok (.invokespecial 167, 3) ∧ decode (g_by 208) 123 = .ok (.athrow, 1)) ∧ 208 < g_mt.length ∧ g_nl 208 = 3 ∧ (g_me 208).2.1 = 11 ∧ plainName (g_y 208).cls = true ∧ ((g_y 208).name == "<init>") = false ∧ g_cn 11 = "GreenGears" := by decide +kernel
theorem x_of2 (l : Launch) (htr : l.stackTraces = false) {d : Nat} (hd : 10 ≤ d) {as : List Value} {h : g_H} {post : g_H → Prop} {ret : Option Value → g_H → Prop} (hlen : (lg_sl as).length ≤ 3)
    (hrun : ∀ P : g_S → Prop, (∀ S, g_end (g_by 208) (g_rt 208) 0 0 ret S → P S) → (∀ L h', post h' → P (11, L, [], 0, 0, h')) → (∀ L h', post h' → P (114, L, [], 0, 0, h')) → (∀ S, g_pre (g_run d) 11 3 false 0 0 (g_by 208) P S → P S) → P (0, lv_args 0 as, [], 0, 0, h)) (D : va_G) (dA : Nat → ClassId) (sz : Nat) :
    vx_Met l (g_y 208) (g_Ws 208) (g_room (d + 1) 1 6) (x_Pc D dA as h sz) (g_Qc dA D h sz ret) (x_XC D dA h sz post) 1 6 (va_A (g_tw dA h) sz) := by
  obtain ⟨d0, d3, d4, d6, d9, ⟨e0, e3, e4, e6, e9⟩, hj, hnl, hme, hpn, hni, hcn⟩ := x_of_d
  obtain ⟨a1, a2, a3, a4, a5, a6⟩ := g_me_ok hj
  refine vx_ofW (cc := g_by 208) (maxL := g_nl 208) (ret := g_rt 208) hpn rfl ?_
  intro p e s m args below meth c s₁ B hml hne hv
  obtain ⟨rfl, hsz, hP, hK, hD0, hxK, hxZ⟩ := hv
  have hts0 := atoms_spec (ws := g_Ws 208) B.pre
  have hts : ∀ w ∈ g_wsl, w.before as.toArray s = true := fun w hw => hts0 w (List.mem_cons_of_mem _ hw)
  have hown : s.vm.findClass (g_cn 11) = some m.cls := by rw [← hme, ← a2]; exact findClass_of_methodNamed B.named
  subst hsz
  rw [hnl] at hml ⊢
  have hl := lv_entry as (n := 3) hlen
  rw [lg_entry_eq]
  have hC : g_Cx p s m as.toArray meth c (g_by 208) 11 3 false D dA := ⟨B.exec, B.bytes, hml, hown, hts, hK, fun h9 => by cases h9⟩
  refine hrun (g_G p l e (g_room (d + 1) 1 6) s m as.toArray below meth c 3 D dA (va_A (g_tw dA h) s.heap.size) s.heap (vx_MQ below (g_Qc dA D h s.heap.size ret) (x_XC D dA h s.heap.size post) as.toArray s 1 6 (va_A (g_tw dA h) s.heap.size))) (fun S hS => (fun ls H locs hl hP hD hS2 => vx_ret (g_endW (mc := 1) (ms := 6) B.exec B.bytes B.returns B.notSynchronized S ⟨Nat.le_trans hS.1 (by decide), Nat.le_trans hS.2.1 (by decide), hS.2.2⟩ ls H locs hl hP hD hS2))) (fun L h' hp => ?_) (fun L h' hp => ?_)
    (fun S hS => g_sP hC (fun q hq => Or.inr hq) (Nat.zero_le _) (Nat.zero_le _) (Nat.le_refl _) (by show 200 * d + 200 ≤ 200 * (d + 1); omega) (g_sound l d) S hS) _ s.heap [] hl hP hD0.self va_S.rf
  · intro ls H locs hl hP hD hS
    obtain ⟨sa, hsa⟩ := hxK.2.1
    rw [hcn] at hown
    exact x_throwS (own := "GreenGears") (ik := 163) (is := 165) (ic := 167) (sa := sa) (A := va_A (g_tw dA h) s.heap.size) B.exec B.bytes htr hown (hts _ (x_w_in List.mem_cons_self)) (hts _ (x_w_in (List.mem_cons_of_mem _ List.mem_cons_self))) hsa (x_hat hts hxK) (List.all_eq_true.mp x_gd_ok) hxZ.1 hxZ.2 hS (hl.1.trans hml.symm) d0 d3 d4 d6 d9 (fun x hx => (hne x hx).elim)
      (by show 5 < d + 1; omega) (by show 0 + 82 ≤ 200 * (d + 1); omega) (Nat.le_refl _) (Nat.le_refl _) B.notSynchronized (x_hx hp hP hD hS) hS.2.2 (Nat.le_refl _) (Nat.le_refl _)
  · intro ls H locs hl hP hD hS
    obtain ⟨sa, hsa⟩ := hxK.2.2.2
    rw [hcn] at hown
    exact x_throwS (own := "GreenGears") (ik := 163) (is := 176) (ic := 167) (sa := sa) (A := va_A (g_tw dA h) s.heap.size) B.exec B.bytes htr hown (hts _ (x_w_in List.mem_cons_self)) (hts _ (x_w_in (List.mem_cons_of_mem _ List.mem_cons_self))) hsa (x_hat hts hxK) (List.all_eq_true.mp x_gd_ok) hxZ.1 hxZ.2 hS (hl.1.trans hml.symm) e0 e3 e4 e6 e9 (fun x hx => (hne x hx).elim)
      (by show 5 < d + 1; omega) (by show 0 + 82 ≤ 200 * (d + 1); omega) (Nat.le_refl _) (Nat.le_refl _) B.notSynchronized (x_hx hp hP hD hS) hS.2.2 (Nat.le_refl _) (Nat.le_refl _)
set_option maxRecDepth 100000 in
theorem x_row_d : decode (g_by 209) 11 = .ok (.new 163, 3) ∧ decode (g_by 209) 14 = .ok (.dup, 1) ∧ decode (g_by 209) 15 = .ok (.ldc_w 428, 3) ∧ decode (g_by 209) 18 = .ok (.invokespecial 167, 3) ∧ decode (g_by 209) 21 = .ok (.athrow, 1) ∧ 209 < g_mt.length ∧ g_nl 209 = 2 ∧ (g_me 209).2.1 = 11 ∧ plainName (g_y 209).cls = true ∧ ((g_y 209).name == "<init>") = false ∧ g_cn 11 = "GreenGears" := by decide +kernel
theorem x_row2 (l : Launch) (htr : l.stackTraces = false) {d : Nat} (hd : 10 ≤ d) {as : List Value} {h : g_H} {post : g_H → Prop} {ret : Option Value → g_H → Prop} (hlen : (lg_sl as).length ≤ 2)
    (hrun : ∀ P : g_S → Prop, (∀ S, g_end (g_by 209) (g_rt 209) 0 0 ret S → P S) → (∀ L h', post h' → P (11, L, [], 0, 0, h')) → (∀ S, g_pre (g_run d) 11 2 false 0 0 (g_by 209) P S → P S) → P (0, lv_args 0 as, [], 0, 0, h)) (D : va_G) (dA : Nat → ClassId) (sz : Nat) :
    vx_Met l (g_y 209) (g_Ws 209) (g_room (d + 1) 1 6) (x_Pc D dA as h sz) (g_Qc dA D h sz ret) (x_XC D dA h sz post) 1 6 (va_A (g_tw dA h) sz) := by
  obtain ⟨d0, d3, d4, d6, d9, hj, hnl, hme, hpn, hni, hcn⟩ := x_row_d
  obtain ⟨a1, a2, a3, a4, a5, a6⟩ := g_me_ok hj
  refine vx_ofW (cc := g_by 209) (maxL := g_nl 209) (ret := g_rt 209) hpn rfl ?_
  intro p e s m args below meth c s₁ B hml hne hv
  obtain ⟨rfl, hsz, hP, hK, hD0, hxK, hxZ⟩ := hv
  have hts0 := atoms_spec (ws := g_Ws 209) B.pre
  have hts : ∀ w ∈ g_wsl, w.before as.toArray s = true := fun w hw => hts0 w (List.mem_cons_of_mem _ hw)
  have hown : s.vm.findClass (g_cn 11) = some m.cls := by rw [← hme, ← a2]; exact findClass_of_methodNamed B.named
  subst hsz
  rw [hnl] at hml ⊢
  have hl := lv_entry as (n := 2) hlen
  rw [lg_entry_eq]
  have hC : g_Cx p s m as.toArray meth c (g_by 209) 11 2 false D dA := ⟨B.exec, B.bytes, hml, hown, hts, hK, fun h9 => by cases h9⟩
  refine hrun (g_G p l e (g_room (d + 1) 1 6) s m as.toArray below meth c 2 D dA (va_A (g_tw dA h) s.heap.size) s.heap (vx_MQ below (g_Qc dA D h s.heap.size ret) (x_XC D dA h s.heap.size post) as.toArray s 1 6 (va_A (g_tw dA h) s.heap.size))) (fun S hS => (fun ls H locs hl hP hD hS2 => vx_ret (g_endW (mc := 1) (ms := 6) B.exec B.bytes B.returns B.notSynchronized S ⟨Nat.le_trans hS.1 (by decide), Nat.le_trans hS.2.1 (by decide), hS.2.2⟩ ls H locs hl hP hD hS2))) (fun L h' hp => ?_)
    (fun S hS => g_sP hC (fun q hq => Or.inr hq) (Nat.zero_le _) (Nat.zero_le _) (Nat.le_refl _) (by show 200 * d + 200 ≤ 200 * (d + 1); omega) (g_sound l d) S hS) _ s.heap [] hl hP hD0.self va_S.rf
  intro ls H locs hl hP hD hS
  obtain ⟨sa, hsa⟩ := hxK.2.2.1
  rw [hcn] at hown
  exact x_throwSW (own := "GreenGears") (ik := 163) (is := 428) (ic := 167) (sa := sa) (A := va_A (g_tw dA h) s.heap.size) B.exec B.bytes htr hown (hts _ (x_w_in List.mem_cons_self)) (hts _ (x_w_in (List.mem_cons_of_mem _ List.mem_cons_self))) hsa (x_hat hts hxK) (List.all_eq_true.mp x_gd_ok) hxZ.1 hxZ.2 hS (hl.1.trans hml.symm) d0 d3 d4 d6 d9 (fun x hx => (hne x hx).elim)
    (by show 5 < d + 1; omega) (by show 0 + 82 ≤ 200 * (d + 1); omega) (Nat.le_refl _) (Nat.le_refl _) B.notSynchronized (x_hx hp hP hD hS) hS.2.2 (Nat.le_refl _) (Nat.le_refl _)
