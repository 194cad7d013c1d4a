-- the plain machine's steps are the Java machine's: fields, arrays, calls
theorem g_ft_eq {ci k : Nat} (h : ci < g_fl.length) : (g_TT (g_fl.getD ci ("", [])) k).2.2.1 = (g_fd ci k).1 ∧ (g_TT (g_fl.getD ci ("", [])) k).2.2.2 = (g_fd ci k).2 ∧ (g_TT (g_fl.getD ci ("", [])) k).2.1 = g_fn ci k ∧ (g_TT (g_fl.getD ci ("", [])) k).1 = g_cn ci := by
  refine ⟨rfl, rfl, rfl, ?_⟩
  have h1 := g_cl_at h
  have h2 : g_cl[ci]? = some ((g_fl.getD ci ("", [])).1, g_TT (g_fl.getD ci ("", [])), (g_fl.getD ci ("", [])).2.length) := by
    rw [g_cl, List.getElem?_map, List.getD_eq_getElem?_getD, List.getElem?_eq_getElem h]
    rfl
  rw [h1] at h2
  have h3 := (Prod.mk.inj (Option.some.inj h2)).1
  exact h3.symm
theorem g_set_fs {n k : Nat} {f : Nat → Value} {v : Value} : ((List.range n).map f).set k v = (List.range n).map (g_up f k v) := by
  apply List.ext_getElem?
  intro j
  rw [List.getElem?_set, List.length_map, List.length_range, List.getElem?_map, List.getElem?_map]
  by_cases hj : j < n
  · rw [List.getElem?_range hj]
    by_cases e : k = j
    · subst e
      simp [hj, g_up]
    · rw [if_neg e]
      simp [g_up, Ne.symm e]
  · rw [List.getElem?_eq_none (by simpa using hj)]
    by_cases e : k = j
    · subst e
      simp [hj]
    · rw [if_neg e]
      rfl
theorem g_get_fs {n k : Nat} {f : Nat → Value} (h : k < n) : ((List.range n).map f)[k]? = some (f k) := by
  rw [List.getElem?_map, List.getElem?_range h]
  rfl
theorem g_getD_fs {n k : Nat} {f : Nat → Value} (h : k < n) : ((List.range n).map f).getD k .null = f k := by
  rw [List.getD_eq_getElem?_getD, g_get_fs h]
  rfl
theorem g_upi {f : Nat → Value} {k : Nat} {x : Int32} : upd (fun j => g_i (f j)) k x = fun j => g_i (g_up f k (.int x) j) := by
  funext j
  unfold upd g_up
  by_cases e : j = k
  · rw [if_pos e, if_pos e]; rfl
  · rw [if_neg e, if_neg e]
theorem g_upl {f : Nat → Value} {k : Nat} {x : Int64} : vp_updL (fun j => g_l (f j)) k x = fun j => g_l (g_up f k (.long x) j) := by
  funext j
  unfold vp_updL g_up
  by_cases e : j = k
  · rw [if_pos e, if_pos e]; rfl
  · rw [if_neg e, if_neg e]
theorem g_upr {f : Nat → Value} {k : Nat} {x : Nat} : va_up (fun j => g_r (f j)) k (some x) = fun j => g_r (g_up f k (.ref x) j) := by
  funext j
  unfold va_up g_up
  by_cases e : j = k
  · rw [if_pos e, if_pos e]; rfl
  · rw [if_neg e, if_neg e]
section G7
variable {p : Program} {l : Launch} {e : Env} {R : Room} {s : State} {m : MethodId} {args : Array Value} {below : List Frame} {meth : Method} {c : Code} {cc : ByteArray} {o nL : Nat} {ini : Bool} {D : va_G} {dA : Nat → ClassId} {A : Nat → Prop} {H0 : Heap} {Q : State → Prop}
variable {ins : Instr} {len pc bc bs : Nat} {L : g_L} {st : List Value} {w : g_W}
theorem g_sD (C : g_Cx p s m args meth c cc o nL ini D dA) (hA : ∀ q, H0.size ≤ q → A q) (hbc : bc ≤ R.cells) (hbs : bs ≤ R.slots) (hdg : decode cc pc = .ok (ins, len)) (h : g_doD o ini bc bs ins len pc L st w (g_G p l e R s m args below meth c nL D dA A H0 Q)) : g_G p l e R s m args below meth c nL D dA A H0 Q (pc, L, st, w) := by
  obtain ⟨hx, hb, hml, hown, hts, hK4, hin⟩ := C
  have hK := hK4.1
  intro ls H locs hl hP hD hS
  rcases h with ⟨i, kd, ci, k, v0, ps, q, a, n, f, rest, rfl, rfl, hkd, hlk, e2, hq, hk, kk⟩ | ⟨i, kd, ci, k, v0, ps, q, a, n, f, v, ty, rest, rfl, rfl, hkd, hlk, e2, hq, hk, hfin, hd, hn, hfit, kk⟩ | ⟨q, a, n, f, j, rest, rfl, rfl, e2, hq, hj, kk⟩ | ⟨q, a, n, f, j, rest, rfl, rfl, e2, hq, hj, kk⟩ | ⟨q, a, t, n, f, j, rest, rfl, rfl, e2, ht, hq, hj, kk⟩ | ⟨q, a, n, f, j, rest, rfl, rfl, e2, hq, hj, kk⟩ | ⟨q, a, n, f, j, x, rest, rfl, rfl, e2, hq, hj, kk⟩ | ⟨q, a, n, f, j, x, rest, rfl, rfl, e2, hq, hj, kk⟩ | ⟨q, a, n, f, j, x, rest, rfl, rfl, e2, hq, hj, kk⟩ | ⟨q, a, n, f, j, x, rest, rfl, rfl, e2, hq, hj, kk⟩ | ⟨q, a, n, f, j, v, qk, nk, fk, rest, rfl, rfl, e2, hq, hqk, hj, kk⟩ | ⟨q, a, t, n, f, rest, rfl, rfl, e2, ht, hq, kk⟩ | ⟨t, x, N, rest, rfl, rfl, ht, e2, hx0, hxN, hN, hc1, hs1, kk⟩ | ⟨i, ps, x, N, rest, b, v, rfl, rfl, hlk, e2, hx0, hxN, hN, hc1, hs1, kk⟩ | ⟨i, ci, N, v, ps, rfl, rfl, hlk, hc1, hs1, kk⟩
  · cases e2
    have hw := g_wds hts hK4 hlk
    have hn := (g_lk_in hlk).2
    have hq' := g_tw_at (dA := dA) hq
    rcases hkd with rfl | rfl
    · simp only [g_lkn, Bool.and_eq_true, decide_eq_true_eq] at hn
      have hc := g_cl_at hn.1
      have hf := g_ft_eq (k := k) hn.1
      refine va_get (D := D) (ci := ci) (ref := g_cn ci) hx hb hts (g_cl_in _ (List.mem_of_getElem? hc)) hown hK hP q hq' hc k hn.2 ?_ (fun _ h9 => ?_) (g_get_fs hk) hdg (kk ls H locs hl hP hD hS)
      · rw [hf.1, hf.2.2.1]; exact hw _ List.mem_cons_self
      · rw [hf.2.2.2] at h9; exact h9
    · simp only [g_lkn, Bool.and_eq_true, decide_eq_true_eq] at hn
      have hc := g_cl_at hn.1
      have hf := g_ft_eq (k := k) hn.1
      refine va_getN (D := D) (ci := ci) (ref := g_cn ci) (host := "GreenGears") hx hb hts (g_cl_in _ (List.mem_of_getElem? hc)) hown hK hP q hq' hc k hn.2 ?_ (fun _ h9 => ?_) (g_get_fs hk) hdg (kk ls H locs hl hP hD hS)
      · rw [hf.1, hf.2.2.1]; exact hw _ List.mem_cons_self
      · rw [hf.2.2.2] at h9; exact h9
  · cases e2
    have hw := g_wds hts hK4 hlk
    have hn0 := (g_lk_in hlk).2
    have hq' := g_tw_at (dA := dA) hq
    have hset : ∀ (w1 w2 : Nat), (w1, w2, w.2.2.set q (a, false, ci, n, g_up f k v)).2.2 = w.2.2.set q (a, false, ci, n, g_up f k v) := fun _ _ => rfl
    have htw : (g_tw dA w.2.2).set q (a, .inr (ci, ((List.range n).map f).set k v)) = g_tw dA (w.2.2.set q (a, false, ci, n, g_up f k v)) := by
      rw [g_tw_set, g_set_fs]; rfl
    have hlen : k < ((List.range n).map f).length := by rw [List.length_map, List.length_range]; exact hk
    have hkk : ∀ (H1 : Heap) (locs1 : List Loc), va_P D g_cl ((g_tw dA w.2.2).set q (a, .inr (ci, ((List.range n).map f).set k v))) H1 → va_D A ((g_tw dA w.2.2).set q (a, .inr (ci, ((List.range n).map f).set k v))) → va_S A H0 H1 locs1 → W p l e R s m args below meth c H1 locs1 w.1 w.2.1 Q (F0 m (pc + 3) ls rest) := by
      intro H1 locs1 g1 g2 g3
      rw [htw] at g1 g2
      exact kk ls H1 locs1 hl g1 g2 g3
    rcases hkd with rfl | rfl
    · simp only [g_lkn, Bool.and_eq_true, decide_eq_true_eq] at hn0
      have hc := g_cl_at hn0.1
      have hf := g_ft_eq (k := k) hn0.1
      have hlink : (Cond.fieldLink (g_cn o) i (g_cn ci) (g_TT (g_fl.getD ci ("", [])) k).2.1 (g_TT (g_fl.getD ci ("", [])) k).2.2.1).before args s = true := by
        rw [hf.1, hf.2.2.1]; exact hw _ List.mem_cons_self
      rcases hfin with hfin | ⟨-, hini, rfl⟩
      · exact va_put (D := D) (ci := ci) (ref := g_cn ci) (ty := ty) hx hb hts (g_cl_in _ (List.mem_of_getElem? hc)) (g_ft (g_cn ci, g_TT (g_fl.getD ci ("", [])), (g_fl.getD ci ("", [])).2.length)) (g_ft_at _ (List.mem_of_getElem? hc)) (g_nm_at _ (List.mem_of_getElem? hc)) hown hK hP hD hS q hq' hc k hn0.2 hlink (fun _ h9 => by rw [hf.2.2.2] at h9; exact h9) hfin hd hn hfit hlen hdg hkk
      · by_cases hff : (g_fd o k).2 = true
        · exact va_putF (D := D) (ci := o) (ref := g_cn o) (ty := ty) hx hb hts (g_cl_in _ (List.mem_of_getElem? hc)) (g_ft (g_cn o, g_TT (g_fl.getD o ("", [])), (g_fl.getD o ("", [])).2.length)) (g_ft_at _ (List.mem_of_getElem? hc)) (g_nm_at _ (List.mem_of_getElem? hc)) hown hK hP hD hS q hq' hc k hn0.2 hlink (fun _ h9 => by rw [hf.2.2.2] at h9; exact h9) hff (hin hini) hf.2.2.2 hd hn hfit hlen hdg hkk
        · exact va_put (D := D) (ci := o) (ref := g_cn o) (ty := ty) hx hb hts (g_cl_in _ (List.mem_of_getElem? hc)) (g_ft (g_cn o, g_TT (g_fl.getD o ("", [])), (g_fl.getD o ("", [])).2.length)) (g_ft_at _ (List.mem_of_getElem? hc)) (g_nm_at _ (List.mem_of_getElem? hc)) hown hK hP hD hS q hq' hc k hn0.2 hlink (fun _ h9 => by rw [hf.2.2.2] at h9; exact h9) (show (g_fd o k).2 = false from Bool.eq_false_iff.mpr hff) hd hn hfit hlen hdg hkk
    · simp only [g_lkn, Bool.and_eq_true, decide_eq_true_eq] at hn0
      have hc := g_cl_at hn0.1
      have hf := g_ft_eq (k := k) hn0.1
      have hlink : (Cond.fieldLinkNest (g_cn o) i (g_cn ci) (g_TT (g_fl.getD ci ("", [])) k).2.1 (g_TT (g_fl.getD ci ("", [])) k).2.2.1 "GreenGears").before args s = true := by
        rw [hf.1, hf.2.2.1]; exact hw _ List.mem_cons_self
      rcases hfin with hfin | ⟨h0, -, -⟩
      · exact va_putN (D := D) (ci := ci) (ref := g_cn ci) (ty := ty) hx hb hts (g_cl_in _ (List.mem_of_getElem? hc)) (g_ft (g_cn ci, g_TT (g_fl.getD ci ("", [])), (g_fl.getD ci ("", [])).2.length)) (g_ft_at _ (List.mem_of_getElem? hc)) (g_nm_at _ (List.mem_of_getElem? hc)) hown hK hP hD hS q hq' hc k hn0.2 hlink (fun _ h9 => by rw [hf.2.2.2] at h9; exact h9) hfin hd hn hfit hlen hdg hkk
      · cases h0
  · cases e2
    exact va_iald hx hb hK hP q 0 (g_tw_at (dA := dA) hq) rfl hj hdg (kk ls H locs hl hP hD hS)
  · cases e2
    exact va_lald hx hb hK hP q 1 (g_tw_at (dA := dA) hq) rfl hj hdg (kk ls H locs hl hP hD hS)
  · cases e2
    rcases ht with rfl | rfl
    · exact va_zald hx hb hK hP q 2 (g_tw_at (dA := dA) hq) rfl hj hdg (kk ls H locs hl hP hD hS)
    · exact va_bald hx hb hK hP q 3 (g_tw_at (dA := dA) hq) rfl hj hdg (kk ls H locs hl hP hD hS)
  · cases e2
    exact va_aldq hx hb hK hP q 4 (g_tw_at (dA := dA) hq) rfl hj hdg (kk ls H locs hl hP hD hS)
  · cases e2
    refine va_iast hx hb hK hP hD hS q 0 (g_tw_at (dA := dA) hq) rfl hj hdg (fun H1 locs1 g1 g2 g3 => kk ls H1 locs1 hl ?_ ?_ g3)
    · rw [g_upi] at g1; show va_P D g_cl (g_tw dA (w.2.2.set q _)) H1; rw [g_tw_set]; exact g1
    · rw [g_upi] at g2; show va_D A (g_tw dA (w.2.2.set q _)); rw [g_tw_set]; exact g2
  · cases e2
    refine va_last hx hb hK hP hD hS q 1 (g_tw_at (dA := dA) hq) rfl hj hdg (fun H1 locs1 g1 g2 g3 => kk ls H1 locs1 hl ?_ ?_ g3)
    · rw [g_upl] at g1; show va_P D g_cl (g_tw dA (w.2.2.set q _)) H1; rw [g_tw_set]; exact g1
    · rw [g_upl] at g2; show va_D A (g_tw dA (w.2.2.set q _)); rw [g_tw_set]; exact g2
  · cases e2
    refine va_zast hx hb hK hP hD hS q 2 (g_tw_at (dA := dA) hq) rfl hj hdg (fun H1 locs1 g1 g2 g3 => kk ls H1 locs1 hl ?_ ?_ g3)
    · rw [g_upi] at g1; show va_P D g_cl (g_tw dA (w.2.2.set q _)) H1; rw [g_tw_set]; exact g1
    · rw [g_upi] at g2; show va_D A (g_tw dA (w.2.2.set q _)); rw [g_tw_set]; exact g2
  · cases e2
    refine va_bast hx hb hK hP hD hS q 3 (g_tw_at (dA := dA) hq) rfl hj hdg (fun H1 locs1 g1 g2 g3 => kk ls H1 locs1 hl ?_ ?_ g3)
    · rw [g_upi] at g1; show va_P D g_cl (g_tw dA (w.2.2.set q _)) H1; rw [g_tw_set]; exact g1
    · rw [g_upi] at g2; show va_D A (g_tw dA (w.2.2.set q _)); rw [g_tw_set]; exact g2
  · cases e2
    refine va_astq (r := (g_cn 1, g_TT (g_fl.getD 1 ("", [])), (g_fl.getD 1 ("", [])).2.length)) hx hb hK hP hD hS q 4 qk 1 (g_tw_at (dA := dA) hq) rfl (g_tw_at (dA := dA) hqk) (g_cl_at (by decide)) hj hdg (fun H1 locs1 g1 g2 g3 => kk ls H1 locs1 hl ?_ ?_ g3)
    · rw [g_upr] at g1; show va_P D g_cl (g_tw dA (w.2.2.set q _)) H1; rw [g_tw_set]; exact g1
    · rw [g_upr] at g2; show va_D A (g_tw dA (w.2.2.set q _)); rw [g_tw_set]; exact g2
  · cases e2
    match t, ht, hq with
    | 0, _, hq => exact va_alen hx hb hK hP q 0 (g_tw_at (dA := dA) hq) rfl rfl hdg (kk ls H locs hl hP hD hS)
    | 1, _, hq => exact va_alen hx hb hK hP q 1 (g_tw_at (dA := dA) hq) rfl rfl hdg (kk ls H locs hl hP hD hS)
    | 2, _, hq => exact va_alen hx hb hK hP q 2 (g_tw_at (dA := dA) hq) rfl rfl hdg (kk ls H locs hl hP hD hS)
    | 3, _, hq => exact va_alen hx hb hK hP q 3 (g_tw_at (dA := dA) hq) rfl rfl hdg (kk ls H locs hl hP hD hS)
    | 4, _, hq => exact va_alen hx hb hK hP q 4 (g_tw_at (dA := dA) hq) rfl rfl hdg (kk ls H locs hl hP hD hS)
  · cases e2
    have key : ∀ (ty : FieldType) (a0 : vp_A) (u : Nat), newarray.typeOf (g_at t) = ty → (g_tys dA)[u]? = some (dA u, ty) → (ty = .int ∨ ty = .long ∨ ty = .boolean ∨ ty = .byte) → g_tr dA (true, t, N, fun _ => defaultValue (g_ty t)) = .inl (dA u, a0) → (∀ cA : ClassId, vp_cell cA a0 = arrV cA N (fun _ => defaultValue ty)) → N * componentBytes ty ≤ 536870912 → W p l e R s m args below meth c H locs w.1 w.2.1 Q (F0 m pc ls (Value.int x :: rest)) := by
      intro ty a0 u hty hu hor htr hce hby
      refine va_newa (atype := g_at t) (ty := ty) (a0 := a0) hx hb (by rw [hty]; exact hts _ (g_arr_in hor)) hty hK hP hD hS hA hce hx0 hxN hby (Nat.le_trans hc1 hbc) (Nat.le_trans hs1 hbs) hdg (fun q cA H1 gK g1 g2 g3 => ?_)
      have hca : cA = dA u := by
        have h1 := (hK.2 u _ hu).2
        have h2 := (gK.2 (g_tys dA).length (cA, ty) (by rw [List.getElem?_append_right (Nat.le_refl _), Nat.sub_self]; rfl)).2
        rcases hor with rfl | rfl | rfl | rfl <;> exact Option.some.inj (h2.symm.trans h1)
      subst hca
      rw [← htr] at g1 g2
      rw [← g_tw_app] at g1 g2
      exact kk q ls H1 locs hl g1 g2 g3
    match t, ht, key with
    | 0, _, key => exact key .int (N, .inl (fun _ => 0)) 0 rfl rfl (Or.inl rfl) rfl (fun _ => rfl) (by show N * 4 ≤ _; omega)
    | 1, _, key => exact key .long (N, .inr (.inl (fun _ => 0))) 1 rfl rfl (Or.inr (Or.inl rfl)) rfl (fun _ => rfl) (by show N * 8 ≤ _; omega)
    | 2, _, key => exact key .boolean (N, .inl (fun _ => 0)) 2 rfl rfl (Or.inr (Or.inr (Or.inl rfl))) rfl (fun _ => rfl) (by show N * 1 ≤ _; omega)
    | 3, _, key => exact key .byte (N, .inl (fun _ => 0)) 3 rfl rfl (Or.inr (Or.inr (Or.inr rfl))) rfl (fun _ => rfl) (by show N * 1 ≤ _; omega)
  · cases e2
    have hw := g_wds hts hK4 hlk
    refine va_newq (C := g_bu) hx hb hown (hw _ List.mem_cons_self) hK4.2.1 hK hP hD hS hA hx0 hxN (by omega) (Nat.le_trans hc1 hbc) (Nat.le_trans hs1 hbs) hdg (fun q cA H1 gK g1 g2 g3 => ?_)
    have hca : cA = dA 4 := by
      obtain ⟨kA, comp, -, -, -, h1⟩ := (hK.2 4 (dA 4, .object g_bu) rfl).2
      obtain ⟨kA2, comp2, -, -, -, h2⟩ := (gK.2 (g_tys dA).length (cA, .object g_bu) (by rw [List.getElem?_append_right (Nat.le_refl _), Nat.sub_self]; rfl)).2
      exact Option.some.inj (h2.symm.trans h1)
    subst hca
    exact kk q ls H1 locs hl (by show va_P D g_cl (g_tw dA (w.2.2 ++ _)) H1; rw [g_tw_app]; exact g1) (by show va_D A (g_tw dA (w.2.2 ++ _)); rw [g_tw_app]; exact g2) g3
  · have hw := g_wds hts hK4 hlk
    have hn0 := (g_lk_in hlk).2
    simp only [g_lkn, Bool.and_eq_true, decide_eq_true_eq, beq_iff_eq] at hn0
    obtain ⟨hn1, rfl⟩ := hn0
    have hc := g_cl_at hn1
    refine va_new (ci := ci) (fs := (List.range (g_fl.getD ci ("", [])).2.length).map (fun j => defaultValue ((parseFieldDescriptor (g_fd ci j).1).getD .int))) hx hb hts (g_cl_in _ (List.mem_of_getElem? hc)) (g_ft (g_cn ci, g_TT (g_fl.getD ci ("", [])), (g_fl.getD ci ("", [])).2.length)) (g_ft_at _ (List.mem_of_getElem? hc)) hown (hw _ List.mem_cons_self) (hw _ (List.mem_cons_of_mem _ List.mem_cons_self)) (hw _ (List.mem_cons_of_mem _ (List.mem_cons_of_mem _ List.mem_cons_self))) hK hP hD hS hA hc (fun j hj => ?_) (Nat.le_trans hc1 hbc) (Nat.le_trans hs1 hbs) hdg (fun q H1 g1 g2 g3 => ?_)
    · exact (g_getD_fs (f := fun j => defaultValue ((parseFieldDescriptor (g_fd ci j).1).getD .int)) hj).symm
    · exact kk q ls H1 locs hl (by show va_P D g_cl (g_tw dA (w.2.2 ++ _)) H1; rw [g_tw_app]; exact g1) (by show va_D A (g_tw dA (w.2.2 ++ _)); rw [g_tw_app]; exact g2) g3
end G7
