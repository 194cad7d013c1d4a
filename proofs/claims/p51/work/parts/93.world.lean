-- the world at the law's start; the law's own steps, and its loads of the script
set_option maxRecDepth 100000 in
theorem lw_cn : g_cn 13 = R_law := by decide +kernel
section L29
variable {p : Program} {l : Launch} {e : Env} {s : State} {m : MethodId} {below : List Frame} {meth : Method} {c : Code} {b L : Nat} {xs : Nat → Int32} {D : va_G} {dA : Nat → ClassId}
theorem lw_world (C0 : lw_At p s m meth c b L xs) : ∃ (D : va_G) (dA : Nat → ClassId), g_K4 D dA s := by
  obtain ⟨hx, hb, hr, hml, hown, hts, hX, hbl, hlocks, hgv⟩ := C0
  have hw : ∀ w ∈ g_wsl, w.before #[Value.ref b] s = true := fun w h => hts w (g_wsl_in w h)
  have hkn : ∀ r ∈ g_cl, ∃ (cC : ClassId) (iS : Nat → Nat), u_Kn s r.1 r.2.1 r.2.2 cC iS := fun r h => u_known hw (g_cl_in r h) (hts _ (of_decide_eq_true (List.all_eq_true.mp g_ins_ok r h)))
  have h : ∀ k : Nat, ∃ z : ClassId × (Nat → Nat), ∀ q : vw_C, g_cl[k]? = some q → u_Kn s q.1 q.2.1 q.2.2 z.1 z.2 := by
    intro k
    cases hc : g_cl[k]? with
    | none => exact ⟨(m.cls, fun _ => 0), fun q h => by cases h⟩
    | some r =>
      obtain ⟨cC, iS, h⟩ := hkn r (List.mem_of_getElem? hc)
      exact ⟨(cC, iS), fun q h' => by cases h'; exact h⟩
  have hA : ∀ t : FieldType, (t = .int ∨ t = .long ∨ t = .boolean ∨ t = .byte) → ∃ cA, ArrOfT s cA t ∧ va_RA s cA t := by
    intro t ht
    obtain ⟨cA, kA, comp, h1, h2, h3⟩ := Cond.arrayClass_spec (hw _ (g_arr_in ht))
    refine ⟨cA, fun n z => ⟨fun k h => (by cases h), kA, h2, comp, h3⟩, ?_⟩
    rcases ht with rfl | rfl | rfl | rfl <;> exact h1
  obtain ⟨a0, q0⟩ := hA .int (Or.inl rfl)
  obtain ⟨a1, q1⟩ := hA .long (Or.inr (Or.inl rfl))
  obtain ⟨a2, q2⟩ := hA .boolean (Or.inr (Or.inr (Or.inl rfl)))
  obtain ⟨a3, q3⟩ := hA .byte (Or.inr (Or.inr (Or.inr rfl)))
  obtain ⟨comp, a4, k4, e1, e2, e3, e4, e5⟩ := Cond.arrayOver_spec (hts _ g_bu_ok)
  refine ⟨(fun c => (Classical.choose (h c)).1, fun c => (Classical.choose (h c)).2), fun k => match k with | 0 => a0 | 1 => a1 | 2 => a2 | 3 => a3 | _ => a4, ⟨fun c q hc => Classical.choose_spec (h c) q hc, ?_⟩, va_AO.of (hts _ g_bu_ok), fun w hw' => va_Nw.of (g_nst (List.mem_filter.mp hw').2) (hts w (List.mem_filter.mp hw').1)⟩
  intro k q hk
  rcases k with _ | _ | _ | _ | _ | k
  · cases hk; exact q0
  · cases hk; exact q1
  · cases hk; exact q2
  · cases hk; exact q3
  · cases hk
    exact ⟨fun n z => ⟨fun k h => (by cases h), k4, e3, comp, e4⟩, k4, comp, e3, e4, e1, e5⟩
  · cases hk
/-- the law's own closure -/
def lw_PP (p : Program) (l : Launch) (e : Env) (s : State) (m : MethodId) (below : List Frame) (meth : Method) (c : Code) (b : Nat) (D : va_G) (dA : Nat → ClassId) : g_S → Prop :=
  g_G p l e room_1 s m #[Value.ref b] below meth c 8 D dA (fun q => s.heap.size ≤ q) s.heap (lw_Z below #[Value.ref b] s)
theorem lw_cl (C0 : lw_At p s m meth c b L xs) (hK : g_K4 D dA s) (S : g_S) (h : g_pre (g_run 60) 13 8 false 1105985 5778149 code (lw_PP p l e s m below meth c b D dA) S) : lw_PP p l e s m below meth c b D dA S := by
  obtain ⟨hx, hb, hr, hml, hown, hts, hX, hbl, hlocks, hgv⟩ := C0
  have hw : ∀ w ∈ g_wsl, w.before #[Value.ref b] s = true := fun w h => hts w (g_wsl_in w h)
  have C : g_Cx p s m #[Value.ref b] meth c code 13 8 false D dA := ⟨hx, hb, hml, by rw [lw_cn]; exact hown, hw, hK, fun h => by cases h⟩
  exact g_sP C (fun q hq => hq) (by decide) (by decide) (by decide) (by decide) (g_sound l 60) S h
theorem lw_len (C0 : lw_At p s m meth c b L xs) {pc : Nat} {L' : g_L} {rest : List Value} {w : g_W} (hdg : decode code pc = .ok (.arraylength, 1)) (k : lw_PP p l e s m below meth c b D dA (pc + 1, L', .int (Int32.ofNat L) :: rest, w)) : lw_PP p l e s m below meth c b D dA (pc, L', .ref b :: rest, w) := by
  obtain ⟨hx, hb, hr, hml, hown, hts, hX, hbl, hlocks, hgv⟩ := C0
  have hbA : ¬ s.heap.size ≤ b := Nat.not_le.mpr hbl
  intro ls H locs hl hP hD hS
  refine va_slen hx hb hX hbl hbA hS hdg ?_
  exact k ls H locs hl hP hD hS
theorem lw_ld (C0 : lw_At p s m meth c b L xs) {pc : Nat} {L' : g_L} {rest : List Value} {w : g_W} {j : Int32} {k : Nat} (hdg : decode code pc = .ok (.iaload, 1)) (hk : k < L) (hj : j.toInt = (k : Int)) (kk : lw_PP p l e s m below meth c b D dA (pc + 1, L', .int (xs k) :: rest, w)) : lw_PP p l e s m below meth c b D dA (pc, L', .int j :: .ref b :: rest, w) := by
  obtain ⟨hx, hb, hr, hml, hown, hts, hX, hbl, hlocks, hgv⟩ := C0
  have hbA : ¬ s.heap.size ≤ b := Nat.not_le.mpr hbl
  intro ls H locs hl hP hD hS
  have e1 : j.toNatClampNeg = k := by rw [← Int32.toNat_toInt, hj]; rfl
  have hin : vp_in j L := by
    intro h
    rcases h with h | h
    · have := Int32.lt_iff_toInt_lt.mp h
      rw [hj] at this
      have h0 : (0 : Int32).toInt = 0 := rfl
      omega
    · omega
  refine va_sld hx hb hX hbl hbA hS hin hdg ?_
  rw [e1]
  exact kk ls H locs hl hP hD hS
/-- the law's end with true -/
theorem lw_good (C0 : lw_At p s m meth c b L xs) {pc : Nat} {L' : g_L} {cn sn : Nat} {h : g_H} (hdg : decode code pc = .ok (.ireturn, 1)) (h1 : cn ≤ 1105985) (h2 : sn ≤ 5778149) : lw_PP p l e s m below meth c b D dA (pc, L', [.int 1], cn, sn, h) := by
  obtain ⟨hx, hb, hr, hml, hown, hts, hX, hbl, hlocks, hgv⟩ := C0
  intro ls H locs hl hP hD hS
  refine va_forget hS.2.2 ?_
  refine W.widen h1 h2 ?_
  refine W.base ?_
  have hd0 := Drawn.sameBut.refl s.drawn lw_cs
  exact lw_ret hd0 hx hb hr hlocks hdg
theorem lw_first (hS : lw_PP p l e s m below meth c b D dA (0, [(0, .ref b)], [], 0, 0, [])) : W p l e room_1 s m #[Value.ref b] below meth c s.heap [] 0 0 (lw_Z below #[Value.ref b] s) (entryFrame m ([Value.ref b] : List Value).toArray 8) := by
  rw [lg_entry_eq]
  have hl := lv_entry [Value.ref b] (n := 8) (show (1 : Nat) ≤ 8 by decide)
  exact hS _ s.heap [] hl (fun k q h => by cases h) ⟨fun i j p q h => (by cases h), fun k q h => by cases h⟩ va_S.rf
end L29
