-- the world at the law's start; what the symbolic run says of the law
set_option maxRecDepth 100000 in
theorem lw_cn : g_cn 13 = R_law := by decide +kernel
section L29
variable {p : Program} {l : Launch} {e : Env} {s : State} {m : MethodId} {below : List Frame} {meth : Method} {c : Code} {b L : Nat} {xs : Nat → Int32} {D : va_G} {dA : Nat → ClassId}
theorem lw_world (C0 : lw_At p s m meth c b L xs) : ∃ (D : va_G) (dA : Nat → ClassId), g_K4 D dA s := by
  obtain ⟨hx, hb, hr, hml, hown, hts, hX, hbl, hlocks, hgv⟩ := C0
  have hw : ∀ w ∈ g_wsl, w.before #[Value.ref b] s = true := fun w h => hts w (g_wsl_in w h)
  have hkn : ∀ r ∈ g_cl, ∃ (cC : ClassId) (iS : Nat → Nat), u_Kn s r.1 r.2.1 r.2.2 cC iS := fun r h => u_known hw (g_cl_in r h) (hts _ (of_decide_eq_true (List.all_eq_true.mp g_ins_ok r h)))
  have h : ∀ k : Nat, ∃ z : ClassId × (Nat → Nat), ∀ q : vw_C, g_cl[k]? = some q → u_Kn s q.1 q.2.1 q.2.2 z.1 z.2 := by
    intro k
    cases hc : g_cl[k]? with
    | none => exact ⟨(m.cls, fun _ => 0), fun q h => by cases h⟩
    | some r =>
      obtain ⟨cC, iS, h⟩ := hkn r (List.mem_of_getElem? hc)
      exact ⟨(cC, iS), fun q h' => by cases h'; exact h⟩
  have hA : ∀ t : FieldType, (t = .int ∨ t = .long ∨ t = .boolean ∨ t = .byte) → ∃ cA, ArrOfT s cA t ∧ va_RA s cA t := by
    intro t ht
    obtain ⟨cA, kA, comp, h1, h2, h3⟩ := Cond.arrayClass_spec (hw _ (g_arr_in ht))
    refine ⟨cA, fun n z => ⟨fun k h => (by cases h), kA, h2, comp, h3⟩, ?_⟩
    rcases ht with rfl | rfl | rfl | rfl <;> exact h1
  obtain ⟨a0, q0⟩ := hA .int (Or.inl rfl)
  obtain ⟨a1, q1⟩ := hA .long (Or.inr (Or.inl rfl))
  obtain ⟨a2, q2⟩ := hA .boolean (Or.inr (Or.inr (Or.inl rfl)))
  obtain ⟨a3, q3⟩ := hA .byte (Or.inr (Or.inr (Or.inr rfl)))
  obtain ⟨comp, a4, k4, e1, e2, e3, e4, e5⟩ := Cond.arrayOver_spec (hts _ g_bu_ok)
  refine ⟨(fun c => (Classical.choose (h c)).1, fun c => (Classical.choose (h c)).2), fun k => match k with | 0 => a0 | 1 => a1 | 2 => a2 | 3 => a3 | _ => a4, ⟨fun c q hc => Classical.choose_spec (h c) q hc, ?_⟩, va_AO.of (hts _ g_bu_ok), fun w hw' => va_Nw.of (g_nst (List.mem_filter.mp hw').2) (hts w (List.mem_filter.mp hw').1)⟩
  intro k q hk
  rcases k with _ | _ | _ | _ | _ | k
  · cases hk; exact q0
  · cases hk; exact q1
  · cases hk; exact q2
  · cases hk; exact q3
  · cases hk
    exact ⟨fun n z => ⟨fun k h => (by cases h), k4, e3, comp, e4⟩, k4, comp, e3, e4, e1, e5⟩
  · cases hk
/-- the law's own closure -/
def lw_PP (p : Program) (l : Launch) (e : Env) (s : State) (m : MethodId) (below : List Frame) (meth : Method) (c : Code) (b : Nat) (D : va_G) (dA : Nat → ClassId) : g_S → Prop :=
  g_G p l e room_1 s m #[Value.ref b] below meth c 8 D dA (fun q => s.heap.size ≤ q) s.heap (lw_Z below #[Value.ref b] s)
theorem lw_cl (C0 : lw_At p s m meth c b L xs) (hK : g_K4 D dA s) (S : g_S) (h : g_pre (g_run 30) 13 8 false 600002 7302232 code (lw_PP p l e s m below meth c b D dA) S) : lw_PP p l e s m below meth c b D dA S := by
  obtain ⟨hx, hb, hr, hml, hown, hts, hX, hbl, hlocks, hgv⟩ := C0
  have hw : ∀ w ∈ g_wsl, w.before #[Value.ref b] s = true := fun w h => hts w (g_wsl_in w h)
  have C : g_Cx p s m #[Value.ref b] meth c code 13 8 false D dA := ⟨hx, hb, hml, by rw [lw_cn]; exact hown, hw, hK, fun h => by cases h⟩
  exact g_sP C (fun q hq => hq) (by decide) (by decide) (by decide) (by decide) (g_sound l 30) S h
def lw_xs (xs : Nat → Int32) (i : Nat) : Int := (xs i).toInt
theorem lw_scr (C0 : lw_At p s m meth c b L xs) : s_scr (L + 1) code b (lw_xs xs) (lw_PP p l e s m below meth c b D dA) := by
  obtain ⟨hx, hb, hr, hml, hown, hts, hX, hbl, hlocks, hgv⟩ := C0
  have hbA : ¬ s.heap.size ≤ b := Nat.not_le.mpr hbl
  intro _
  refine ⟨?_, ?_⟩
  · intro pc L' rest w hdg k ls H locs hl hP hD hS
    refine va_slen hx hb hX hbl hbA hS hdg ?_
    exact k ls H locs hl hP hD hS
  · intro pc L' rest w j k hdg hk hj kk ls H locs hl hP hD hS
    have hk' : k < L := hk
    have e1 : j.toNatClampNeg = k := by rw [← Int32.toNat_toInt, hj]; rfl
    have hin : vp_in j L := by
      intro h
      rcases h with h | h
      · have := Int32.lt_iff_toInt_lt.mp h
        rw [hj] at this
        have h0 : (0 : Int32).toInt = 0 := rfl
        omega
      · omega
    refine va_sld hx hb hX hbl hbA hS hin hdg ?_
    rw [e1]
    have h2 := kk ls H locs hl hP hD hS
    have e2 : Int32.ofInt (lw_xs xs k) = xs k := Int32.ofInt_toInt _
    rw [e2] at h2
    exact h2
/-- a good end is the law's end -/
theorem lw_good (C0 : lw_At p s m meth c b L xs) {σ : Nat → Int} {ρ : Nat → Nat} {Y : s_X} (hY : ∀ r ∈ Y.1, s_okI code 13 r = true) (h : s_good Y = true) : lw_PP p l e s m below meth c b D dA (s_cX σ ρ b Y) := by
  obtain ⟨hx, hb, hr, hml, hown, hts, hX, hbl, hlocks, hgv⟩ := C0
  unfold s_good at h
  split at h
  next r t L' v cn sn M =>
    simp only [Bool.and_eq_true, Nat.beq_eq, Nat.ble_eq, decide_eq_true_eq] at h
    obtain ⟨h1, h2, h3, h4, h5⟩ := h
    obtain ⟨pc, len, q, kd, a, k, v0, ins⟩ := r
    have hI := hY _ List.mem_cons_self
    have hq : q = 40 := h1
    subst hq
    obtain ⟨⟨n, hd, hlen, hne⟩, hQ, -⟩ := s_okI_eq hI (by omega)
    obtain ⟨vt, vn⟩ := v
    have h2' : vt = 0 := h2
    have h3' : vn = 1 := h3
    subst h2' h3'
    intro ls H locs hl hP hD hS
    refine va_forget hS.2.2 ?_
    refine W.widen h4 h5 ?_
    refine W.base ?_
    have hd0 := Drawn.sameBut.refl s.drawn lw_cs
    have hi : ins = .ireturn := of_decide_eq_true hQ
    have hn := hne (by decide)
    rw [hn, hi] at hd
    have hdg : decode code pc = .ok (.ireturn, 1) := hd
    exact lw_ret hd0 hx hb hr hlocks hdg
  next => cases h
theorem lw_run (C0 : lw_At p s m meth c b L xs) (hK : g_K4 D dA s) {X : s_X} {outs : List s_X} (h : s_law (L + 1) X = some outs) (hX : ∀ r ∈ X.1, s_okI code 13 r = true) :
    (∀ Y ∈ outs, X.2.2.2.2.2.1.length ≤ Y.2.2.2.2.2.1.length ∧ X.2.2.2.2.2.2.2.2.length ≤ Y.2.2.2.2.2.2.2.2.length ∧ ∀ r ∈ Y.1, s_okI code 13 r = true) ∧
      ∀ (σ : Nat → Int) (ρ : Nat → Nat), s_ok (lw_xs xs) σ X.2.2.2.2.2 → (∀ Y ∈ outs, ∀ (σ' : Nat → Int) (ρ' : Nat → Nat), (∀ i, i < X.2.2.2.2.2.1.length → σ' i = σ i) → (∀ i, i < X.2.2.2.2.2.2.2.2.length → ρ' i = ρ i) → s_ok (lw_xs xs) σ' Y.2.2.2.2.2 → lw_PP p l e s m below meth c b D dA (s_cX σ' ρ' b Y)) → lw_PP p l e s m below meth c b D dA (s_cX σ ρ b X) :=
  s_loop_ok (lw_cl C0 hK) (lw_scr C0) s_ft_ok s_df_ok s_mi_ok (s_run_ok s_ft_ok s_df_ok s_mi_ok s_codes_ok s_ov_ok 30) s_cl_ok s_F X outs h hX
/-- a run all of whose ends are good -/
theorem lw_all (C0 : lw_At p s m meth c b L xs) (hK : g_K4 D dA s) {X : s_X} (h : (match s_law (L + 1) X with | some outs => outs.all s_good | none => false) = true) (hX : ∀ r ∈ X.1, s_okI code 13 r = true) (σ : Nat → Int) (ρ : Nat → Nat) (hok : s_ok (lw_xs xs) σ X.2.2.2.2.2) : lw_PP p l e s m below meth c b D dA (s_cX σ ρ b X) := by
  split at h
  next outs e1 =>
    obtain ⟨h1, h2⟩ := lw_run (l := l) (e := e) (below := below) C0 hK e1 hX
    exact h2 σ ρ hok (fun Y hY σ' ρ' _ _ _ => lw_good C0 (h1 Y hY).2.2 (List.all_eq_true.mp h Y hY))
  next => cases h
/-- the start -/
theorem lw_ok0 : ∃ σ : Nat → Int, s_ok (lw_xs xs) σ s_X0.2.2.2.2.2 := by
  refine ⟨lw_xs xs, ?_, fun q h => (by cases h), fun q h => (by cases h), fun _ _ => rfl⟩
  intro i r hi
  have hb : ∀ i, -2147483648 ≤ lw_xs xs i ∧ lw_xs xs i ≤ 2147483647 := by
    intro i
    have h1 := Int32.le_toInt (xs i)
    have h2 := Int32.toInt_lt (xs i)
    unfold lw_xs
    omega
  rcases i with _ | _ | _ | _ | _ | i
  · cases hi; exact hb _
  · cases hi; exact hb _
  · cases hi; exact hb _
  · cases hi; exact hb _
  · cases hi; exact hb _
  · cases hi
theorem lw_first (hS : lw_PP p l e s m below meth c b D dA (0, [(0, .ref b)], [], 0, 0, [])) : W p l e room_1 s m #[Value.ref b] below meth c s.heap [] 0 0 (lw_Z below #[Value.ref b] s) (entryFrame m ([Value.ref b] : List Value).toArray 8) := by
  rw [lg_entry_eq]
  have hl := lv_entry [Value.ref b] (n := 8) (show (1 : Nat) ≤ 8 by decide)
  exact hS _ s.heap [] hl (fun k q h => by cases h) ⟨fun i j p q h => (by cases h), fun k q h => by cases h⟩ va_S.rf
end L29
