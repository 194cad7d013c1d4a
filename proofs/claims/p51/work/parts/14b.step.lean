-- the steps of the machine over bounds are the plain machine's: constants, locals, stack, arithmetic
theorem s_bif {α : Type} {c : Bool} {x : Option α} {y : α} (h : (bif c then x else none) = some y) : c = true ∧ x = some y := by
  cases c
  · cases h
  · exact ⟨rfl, h⟩
theorem s_bifn {α : Type} {c : Bool} {x : Option α} {y : α} (h : (bif c then none else x) = some y) : c = false ∧ x = some y := by
  cases c
  · exact ⟨rfl, h⟩
  · cases h
def s_hP (P : g_S → Prop) (xs : Nat → Int) (b : Nat) (σ : Nat → Int) (ρ : Nat → Nat) (M : s_M) (X' : s_X) : Prop :=
  ∀ (σ' : Nat → Int) (ρ' : Nat → Nat), (∀ i, i < M.1.length → σ' i = σ i) → (∀ i, i < M.2.2.2.length → ρ' i = ρ i) → s_ok xs σ' X'.2.2.2.2.2 → P (s_cX σ' ρ' b X')
theorem s_con_g {ins : Instr} {v : s_V} {σ : Nat → Int} {ρ : Nat → Nat} {b : Nat} (h : s_conI ins = some v) : g_con ins = some (s_len ins, s_cv σ ρ b v) := by
  cases ins <;> simp only [s_conI, reduceCtorEq, Option.some.injEq] at h <;> subst h
  · rfl
  · simp only [g_con, s_len, s_cv, s_iz]
  · rfl
  · rfl
  · simp only [g_con, s_len, s_cv, s_iz]
theorem s_ld_g {ins : Instr} {a k : Nat} (h : s_ldI ins = some (a, k)) : ∃ p, g_load ins = some (a, s_len ins, p) ∧ ∀ (σ : Nat → Int) (ρ : Nat → Nat) (b : Nat) (v : s_V), s_tk k v = true → p (s_cv σ ρ b v) = true := by
  cases ins <;> simp only [s_ldI, reduceCtorEq, Option.some.injEq, Prod.mk.injEq] at h <;> obtain ⟨rfl, rfl⟩ := h <;> refine ⟨_, rfl, fun σ ρ b v hv => ?_⟩
  · rcases s_tk_2 (σ := σ) (ρ := ρ) (b := b) hv with e | ⟨x, e⟩ <;> rw [e]
  · rcases s_tk_2 (σ := σ) (ρ := ρ) (b := b) hv with e | ⟨x, e⟩ <;> rw [e]
  · obtain ⟨x, e⟩ := s_tk_0 (σ := σ) (ρ := ρ) (b := b) hv; rw [e]
  · obtain ⟨x, e⟩ := s_tk_0 (σ := σ) (ρ := ρ) (b := b) hv; rw [e]
  · obtain ⟨x, e⟩ := s_tk_1 (σ := σ) (ρ := ρ) (b := b) hv; rw [e]
  · obtain ⟨x, e⟩ := s_tk_1 (σ := σ) (ρ := ρ) (b := b) hv; rw [e]
theorem s_st_g {ins : Instr} {a k : Nat} {w : Bool} (h : s_stI ins = some (a, w, k)) : ∃ p, g_stor ins = some (a, s_len ins, w, p) ∧ ∀ (σ : Nat → Int) (ρ : Nat → Nat) (b : Nat) (v : s_V), s_tk k v = true → p (s_cv σ ρ b v) = true := by
  cases ins <;> simp only [s_stI, reduceCtorEq, Option.some.injEq, Prod.mk.injEq] at h <;> obtain ⟨rfl, rfl, rfl⟩ := h <;> refine ⟨_, rfl, fun σ ρ b v hv => ?_⟩
  · rcases s_tk_2 (σ := σ) (ρ := ρ) (b := b) hv with e | ⟨x, e⟩ <;> rw [e]
  · rcases s_tk_2 (σ := σ) (ρ := ρ) (b := b) hv with e | ⟨x, e⟩ <;> rw [e]
  · obtain ⟨x, e⟩ := s_tk_0 (σ := σ) (ρ := ρ) (b := b) hv; rw [e]
  · obtain ⟨x, e⟩ := s_tk_0 (σ := σ) (ρ := ρ) (b := b) hv; rw [e]
  · obtain ⟨x, e⟩ := s_tk_1 (σ := σ) (ρ := ρ) (b := b) hv; rw [e]
  · obtain ⟨x, e⟩ := s_tk_1 (σ := σ) (ρ := ρ) (b := b) hv; rw [e]
theorem s_ib_g {ins : Instr} {a : Nat} (h : s_ibn ins = some a) : g_ib ins = some (s_fib a) ∧ s_len ins = 1 := by
  cases ins <;> simp only [s_ibn, reduceCtorEq, Option.some.injEq] at h <;> subst h <;> exact ⟨rfl, rfl⟩
theorem s_id_g {ins : Instr} {a : Nat} (h : s_idn ins = some a) : g_id ins = some (s_fid a) ∧ s_len ins = 1 := by
  cases ins <;> simp only [s_idn, reduceCtorEq, Option.some.injEq] at h <;> subst h <;> exact ⟨rfl, rfl⟩
theorem s_iu_g {ins : Instr} {a : Nat} (h : s_iun ins = some a) : g_iu ins = some (s_fiu a) ∧ s_len ins = 1 := by
  cases ins <;> simp only [s_iun, reduceCtorEq, Option.some.injEq] at h <;> subst h <;> exact ⟨rfl, rfl⟩
theorem s_lb_g {ins : Instr} {a : Nat} (h : s_lbn ins = some a) : g_lb ins = some (s_flb a) ∧ s_len ins = 1 := by
  cases ins <;> simp only [s_lbn, reduceCtorEq, Option.some.injEq] at h <;> subst h <;> exact ⟨rfl, rfl⟩
theorem s_ldv_g {ins : Instr} {a : Nat} (h : s_ldn ins = some a) : g_ld ins = some (s_fld a) ∧ s_len ins = 1 := by
  cases ins <;> simp only [s_ldn, reduceCtorEq, Option.some.injEq] at h <;> subst h <;> exact ⟨rfl, rfl⟩
section S22
variable {P : g_S → Prop} {xs : Nat → Int} {σ : Nat → Int} {ρ : Nat → Nat} {b : Nat} {M : s_M} {CALL : Nat → List Value → g_H → Nat → Nat → (Option Value → g_H → Prop) → Prop} {cc : ByteArray} {o nL : Nat} {ini : Bool} {bc bs : Nat}
variable {t : List s_I} {L : s_L} {st : List s_V} {cn sn pc : Nat} {ins : Instr} {X' : s_X}
theorem s_stay {pc' : Nat} (hok : s_ok xs σ M) (hgo : s_pc t = pc') (hP : s_hP P xs b σ ρ M (t, L, st, cn, sn, M)) : P (pc', s_cL σ ρ b L, st.map (s_cv σ ρ b), cn, sn, s_ch σ ρ b 0 M.2.2.2) := by
  subst hgo
  exact hP σ ρ (fun _ _ => rfl) (fun _ _ => rfl) hok
/-- a new number z within bounds -/
theorem s_fresh_ok {lo hi z : Int} {B : s_B} {pc' : Nat} (hok : s_ok xs σ M) (hgo : s_pc t = pc') (hz : lo ≤ z ∧ z ≤ hi) (hB : B = M.2.2.1 ∨ ∃ i j, B = (i, j, M.1.length) :: M.2.2.1 ∧ i < M.1.length ∧ j < M.1.length ∧ z = σ i - σ j)
    (h : s_fresh t L st cn sn M lo hi B = some (.inr X')) (hP : s_hP P xs b σ ρ M X') : P (pc', s_cL σ ρ b L, Value.int (Int32.ofInt z) :: st.map (s_cv σ ρ b), cn, sn, s_ch σ ρ b 0 M.2.2.2) := by
  obtain ⟨E, R, B0, H⟩ := M
  subst hgo
  unfold s_fresh at h
  obtain ⟨h1, h⟩ := s_bif h
  simp only [s_fn_eq] at h
  cases h
  simp only [s_wf, s_wM, Bool.and_eq_true] at h1
  obtain ⟨h5, hwL, hwS, ⟨hwR, hwB⟩, hwH⟩ := h1
  have h5' : 5 ≤ E.length := Nat.le_of_ble_eq_true h5
  have hag : ∀ i, i < E.length → (fun i => if i = E.length then z else σ i) i = σ i := fun i hi => if_neg (by omega)
  have key := hP (fun i => if i = E.length then z else σ i) ρ hag (fun _ _ => rfl) ?_
  · have e1 : s_cL (fun i => if i = E.length then z else σ i) ρ b L = s_cL σ ρ b L := s_wL_ag hwL hag (fun _ _ => rfl)
    have e2 : st.map (s_cv (fun i => if i = E.length then z else σ i) ρ b) = st.map (s_cv σ ρ b) := s_wS_ag hwS hag (fun _ _ => rfl)
    have e3 : s_ch (fun i => if i = E.length then z else σ i) ρ b 0 H = s_ch σ ρ b 0 H := s_ch_ag H 0 hwH (by omega) hag (fun _ _ => rfl)
    have e4 : s_cv (fun i => if i = E.length then z else σ i) ρ b (2, (E.length : Int)) = .int (Int32.ofInt z) := by
      simp only [s_cv, Int.toNat_natCast, if_true]
    have e5 : s_cX (fun i => if i = E.length then z else σ i) ρ b (t, L, (2, (E.length : Int)) :: st, cn, sn, (E ++ [(lo, hi)], R, B, H)) = (s_pc t, s_cL σ ρ b L, Value.int (Int32.ofInt z) :: st.map (s_cv σ ρ b), cn, sn, s_ch σ ρ b 0 H) := by
      show (s_pc t, s_cL _ ρ b L, s_cv _ ρ b (2, (E.length : Int)) :: st.map (s_cv _ ρ b), cn, sn, s_ch _ ρ b 0 H) = _
      rw [e1, e2, e3, e4]
    rw [e5] at key
    exact key
  · refine ⟨fun i r hix => ?_, fun q hq => ?_, fun q hq => ?_, fun i hi => ?_⟩
    · have hi' : (E ++ [(lo, hi)])[i]? = some r := hix
      by_cases hl : i < E.length
      · rw [List.getElem?_append_left hl] at hi'
        have := hok.1 i r hi'
        simp only [if_neg (show ¬ i = E.length by omega)]
        exact this
      · rw [List.getElem?_append_right (by omega)] at hi'
        have hz0 : i - E.length < 1 := (List.getElem?_eq_some_iff.mp hi').1
        have hiE : i = E.length := by omega
        subst hiE
        rw [Nat.sub_self] at hi'
        cases hi'
        simp only [if_true]
        exact hz
    · have := hok.2.1 q hq
      have hw := List.all_eq_true.mp hwR q hq
      simp only [Bool.and_eq_true, Nat.blt_eq] at hw
      simp only [if_neg (show ¬ q.1 = E.length by omega), if_neg (show ¬ q.2.1 = E.length by omega)]
      exact this
    · have old : ∀ q ∈ B0, (fun i => if i = E.length then z else σ i) q.2.2 = (fun i => if i = E.length then z else σ i) q.1 - (fun i => if i = E.length then z else σ i) q.2.1 := by
        intro q hq
        have := hok.2.2.1 q hq
        have hw := List.all_eq_true.mp hwB q hq
        simp only [Bool.and_eq_true, Nat.blt_eq] at hw
        simp only [if_neg (show ¬ q.1 = E.length by omega), if_neg (show ¬ q.2.1 = E.length by omega), if_neg (show ¬ q.2.2 = E.length by omega)]
        exact this
      rcases hB with rfl | ⟨i, j, rfl, hi, hj, hz2⟩
      · exact old q hq
      · rcases List.mem_cons.mp hq with rfl | hq
        · have hi' : i < E.length := hi
          have hj' : j < E.length := hj
          show (if E.length = E.length then z else σ E.length) = (if i = E.length then z else σ i) - (if j = E.length then z else σ j)
          rw [if_pos rfl, if_neg (show ¬ i = E.length by omega), if_neg (show ¬ j = E.length by omega)]
          exact hz2
        · exact old q hq
    · simp only [if_neg (show ¬ i = E.length by omega)]
      exact hok.2.2.2 i hi
theorem s_push_ok {v : s_V} {pc' : Nat} (hok : s_ok xs σ M) (hgo : s_pc t = pc') (h : s_push t L st cn sn M v = some (.inr X')) (hP : s_hP P xs b σ ρ M X') : P (pc', s_cL σ ρ b L, s_cv σ ρ b v :: st.map (s_cv σ ρ b), cn, sn, s_ch σ ρ b 0 M.2.2.2) := by
  rw [s_push, s_fv_eq] at h
  cases h
  exact s_stay (st := v :: st) hok hgo hP
theorem s_q0_ok (hcl : ∀ S, g_pre CALL o nL ini bc bs cc P S → P S) {v : s_V} (hok : s_ok xs σ M) (hd : decode cc pc = .ok (ins, s_len ins)) (hgo : s_pc t = pc + s_len ins) (hQ : s_conI ins = some v) (h : s_push t L st cn sn M v = some (.inr X')) (hP : s_hP P xs b σ ρ M X') : P (pc, s_cL σ ρ b L, st.map (s_cv σ ρ b), cn, sn, s_ch σ ρ b 0 M.2.2.2) :=
  hcl _ ⟨ins, _, hd, Or.inl (Or.inl ⟨_, s_con_g hQ, s_push_ok hok hgo h hP⟩)⟩
theorem s_q1_ok (hcl : ∀ S, g_pre CALL o nL ini bc bs cc P S → P S) {a k : Nat} (hok : s_ok xs σ M) (hd : decode cc pc = .ok (ins, s_len ins)) (hgo : s_pc t = pc + s_len ins) (hQ : s_ldI ins = some (a, k)) (h : s_q1 t L st cn sn M a k = some (.inr X')) (hP : s_hP P xs b σ ρ M X') : P (pc, s_cL σ ρ b L, st.map (s_cv σ ρ b), cn, sn, s_ch σ ρ b 0 M.2.2.2) := by
  unfold s_q1 at h
  split at h
  next v e =>
    obtain ⟨h1, h⟩ := s_bif h
    cases h
    obtain ⟨p, g1, g2⟩ := s_ld_g hQ
    exact hcl _ ⟨ins, _, hd, Or.inl (Or.inr (Or.inl ⟨_, _, _, g1, s_find_in e, g2 _ _ _ _ h1, s_stay (st := v :: st) hok hgo hP⟩))⟩
  next => cases h
theorem s_q2_ok (hcl : ∀ S, g_pre CALL o nL ini bc bs cc P S → P S) {a k : Nat} (hok : s_ok xs σ M) (hd : decode cc pc = .ok (ins, s_len ins)) (hgo : s_pc t = pc + s_len ins) (hQ : s_stI ins = some (a, false, k)) (h : s_q2 nL t L st cn sn M a k = some (.inr X')) (hP : s_hP P xs b σ ρ M X') : P (pc, s_cL σ ρ b L, st.map (s_cv σ ρ b), cn, sn, s_ch σ ρ b 0 M.2.2.2) := by
  unfold s_q2 at h
  split at h
  next v rest =>
    obtain ⟨h1, h⟩ := s_bif h
    rw [s_fil1_eq] at h
    cases h
    rw [Bool.and_eq_true, Nat.blt_eq] at h1
    obtain ⟨p, g1, g2⟩ := s_st_g hQ
    have k1 := s_stay hok hgo hP
    rw [s_st1_eq] at k1
    exact hcl _ ⟨ins, _, hd, Or.inl (Or.inr (Or.inr (Or.inl ⟨_, _, _, _, g1, rfl, g2 _ _ _ _ h1.1, h1.2, k1⟩)))⟩
  next => cases h
theorem s_q3_ok (hcl : ∀ S, g_pre CALL o nL ini bc bs cc P S → P S) {a k : Nat} (hok : s_ok xs σ M) (hd : decode cc pc = .ok (ins, s_len ins)) (hgo : s_pc t = pc + s_len ins) (hQ : s_stI ins = some (a, true, k)) (h : s_q3 nL t L st cn sn M a k = some (.inr X')) (hP : s_hP P xs b σ ρ M X') : P (pc, s_cL σ ρ b L, st.map (s_cv σ ρ b), cn, sn, s_ch σ ρ b 0 M.2.2.2) := by
  unfold s_q3 at h
  split at h
  next v rest =>
    obtain ⟨h1, h⟩ := s_bif h
    rw [s_fil2_eq] at h
    cases h
    rw [Bool.and_eq_true, Nat.blt_eq] at h1
    obtain ⟨p, g1, g2⟩ := s_st_g hQ
    have k1 := s_stay hok hgo hP
    rw [s_st2_eq] at k1
    exact hcl _ ⟨ins, _, hd, Or.inl (Or.inr (Or.inr (Or.inr (Or.inl ⟨_, _, _, _, g1, rfl, g2 _ _ _ _ h1.1, h1.2, k1⟩))))⟩
  next => cases h
theorem s_q4_ok (hcl : ∀ S, g_pre CALL o nL ini bc bs cc P S → P S) {a : Nat} {v : Int} (hok : s_ok xs σ M) (hd : decode cc pc = .ok (ins, s_len ins)) (hgo : s_pc t = pc + s_len ins) (hQ : ins = .iinc a v) (h : s_q4 nL t L st cn sn M a v = some (.inr X')) (hP : s_hP P xs b σ ρ M X') : P (pc, s_cL σ ρ b L, st.map (s_cv σ ρ b), cn, sn, s_ch σ ρ b 0 M.2.2.2) := by
  subst hQ
  unfold s_q4 at h
  split at h
  next u e =>
    split at h
    next x e2 =>
      obtain ⟨h1, h⟩ := s_bif h
      rw [s_fi_eq, s_fil1_eq] at h
      cases h
      have k1 := s_stay hok hgo hP
      rw [s_st1_eq] at k1
      simp only [s_cv, s_iz] at k1
      have e3 := s_find_in (σ := σ) (ρ := ρ) (b := b) e
      rw [s_k_eq hok e2] at e3
      exact hcl _ ⟨_, _, hd, Or.inl (Or.inr (Or.inr (Or.inr (Or.inr (Or.inl ⟨_, _, _, rfl, Or.inl rfl, e3, by rw [Nat.blt_eq] at h1; exact h1, k1⟩)))))⟩
    next => cases h
  next => cases h
theorem s_cat1 {v : s_V} (h : s_c2 v = false) : (s_cv σ ρ b v).category = 1 := by rw [s_cat, h]; rfl
theorem s_q5_ok (hcl : ∀ S, g_pre CALL o nL ini bc bs cc P S → P S) (hok : s_ok xs σ M) (hd : decode cc pc = .ok (ins, s_len ins)) (hgo : s_pc t = pc + s_len ins) (hQ : ins = .dup) (h : s_q5 t L st cn sn M = some (.inr X')) (hP : s_hP P xs b σ ρ M X') : P (pc, s_cL σ ρ b L, st.map (s_cv σ ρ b), cn, sn, s_ch σ ρ b 0 M.2.2.2) := by
  subst hQ
  unfold s_q5 at h
  split at h
  next v rest =>
    obtain ⟨h1, h⟩ := s_bifn h
    cases h
    exact hcl _ ⟨_, _, hd, Or.inl (Or.inr (Or.inr (Or.inr (Or.inr (Or.inr (Or.inl ⟨_, _, rfl, rfl, rfl, s_cat1 h1, s_stay (st := v :: v :: rest) hok hgo hP⟩))))))⟩
  next => cases h
theorem s_q6_ok (hcl : ∀ S, g_pre CALL o nL ini bc bs cc P S → P S) (hok : s_ok xs σ M) (hd : decode cc pc = .ok (ins, s_len ins)) (hgo : s_pc t = pc + s_len ins) (hQ : ins = .pop) (h : s_q6 t L st cn sn M = some (.inr X')) (hP : s_hP P xs b σ ρ M X') : P (pc, s_cL σ ρ b L, st.map (s_cv σ ρ b), cn, sn, s_ch σ ρ b 0 M.2.2.2) := by
  subst hQ
  unfold s_q6 at h
  split at h
  next v rest =>
    obtain ⟨h1, h⟩ := s_bifn h
    cases h
    exact hcl _ ⟨_, _, hd, Or.inl (Or.inr (Or.inr (Or.inr (Or.inr (Or.inr (Or.inr (Or.inl ⟨_, _, rfl, rfl, rfl, s_cat1 h1, s_stay hok hgo hP⟩)))))))⟩
  next => cases h
theorem s_q7_ok (hcl : ∀ S, g_pre CALL o nL ini bc bs cc P S → P S) (hok : s_ok xs σ M) (hd : decode cc pc = .ok (ins, s_len ins)) (hgo : s_pc t = pc + s_len ins) (hQ : ins = .dup_x1) (h : s_q7 t L st cn sn M = some (.inr X')) (hP : s_hP P xs b σ ρ M X') : P (pc, s_cL σ ρ b L, st.map (s_cv σ ρ b), cn, sn, s_ch σ ρ b 0 M.2.2.2) := by
  subst hQ
  unfold s_q7 at h
  split at h
  next v u rest =>
    obtain ⟨h1, h⟩ := s_bifn h
    cases h
    rw [Bool.or_eq_false_iff] at h1
    exact hcl _ ⟨_, _, hd, Or.inl (Or.inr (Or.inr (Or.inr (Or.inr (Or.inr (Or.inr (Or.inr (Or.inl ⟨_, _, _, rfl, rfl, rfl, s_cat1 h1.1, s_cat1 h1.2, s_stay (st := v :: u :: v :: rest) hok hgo hP⟩))))))))⟩
  next => cases h
theorem s_q8_ok (hcl : ∀ S, g_pre CALL o nL ini bc bs cc P S → P S) (hok : s_ok xs σ M) (hd : decode cc pc = .ok (ins, s_len ins)) (hgo : s_pc t = pc + s_len ins) (hQ : ins = .dup2) (h : s_q8 t L st cn sn M = some (.inr X')) (hP : s_hP P xs b σ ρ M X') : P (pc, s_cL σ ρ b L, st.map (s_cv σ ρ b), cn, sn, s_ch σ ρ b 0 M.2.2.2) := by
  subst hQ
  unfold s_q8 at h
  split at h
  next v u rest =>
    cases hv : s_c2 v
    · rw [hv, cond_false] at h
      obtain ⟨h1, h⟩ := s_bifn h
      cases h
      exact hcl _ ⟨_, _, hd, Or.inl (Or.inr (Or.inr (Or.inr (Or.inr (Or.inr (Or.inr (Or.inr (Or.inr (Or.inl ⟨_, _, _, rfl, rfl, rfl, s_cat1 hv, s_cat1 h1, s_stay (st := v :: u :: v :: u :: rest) hok hgo hP⟩)))))))))⟩
    · rw [hv, cond_true] at h
      cases h
      exact hcl _ ⟨_, _, hd, Or.inl (Or.inr (Or.inr (Or.inr (Or.inr (Or.inr (Or.inr (Or.inr (Or.inr (Or.inr (Or.inl ⟨_, _, rfl, rfl, rfl, by rw [s_cat, hv]; rfl, s_stay (st := v :: v :: u :: rest) hok hgo hP⟩))))))))))⟩
  next => cases h
/-- an entry of the pool is as the tables have it -/
def s_lkd (o i kd a b : Nat) (v : Int) : Prop := ∃ ps, (o, i, kd, a, b, v, ps) ∈ g_lk
theorem s_q9_ok (hcl : ∀ S, g_pre CALL o nL ini bc bs cc P S → P S) {i kd a b0 : Nat} {v : Int} (hok : s_ok xs σ M) (hd : decode cc pc = .ok (ins, s_len ins)) (hgo : s_pc t = pc + s_len ins) (hQ : ins = .ldc i ∨ ins = .ldc_w i) (hlk : s_lkd o i kd a b0 v) (hk : kd = 10) (h : (some (.inr (t, L, (0, v) :: st, cn, sn, M)) : Option s_O) = some (.inr X')) (hP : s_hP P xs b σ ρ M X') : P (pc, s_cL σ ρ b L, st.map (s_cv σ ρ b), cn, sn, s_ch σ ρ b 0 M.2.2.2) := by
  cases h
  subst hk
  obtain ⟨ps, hlk⟩ := hlk
  have k1 := s_stay (st := (0, v) :: st) hok hgo hP
  rcases hQ with rfl | rfl
  · exact hcl _ ⟨_, _, hd, Or.inl (Or.inr (Or.inr (Or.inr (Or.inr (Or.inr (Or.inr (Or.inr (Or.inr (Or.inr (Or.inr (Or.inl ⟨_, _, _, _, _, _, rfl, hlk, k1⟩)))))))))))⟩
  · exact hcl _ ⟨_, _, hd, Or.inl (Or.inr (Or.inr (Or.inr (Or.inr (Or.inr (Or.inr (Or.inr (Or.inr (Or.inr (Or.inr (Or.inl ⟨_, _, _, _, _, _, rfl, hlk, k1⟩)))))))))))⟩
theorem s_q10_ok (hcl : ∀ S, g_pre CALL o nL ini bc bs cc P S → P S) {i kd a b0 : Nat} {v : Int} (hok : s_ok xs σ M) (hd : decode cc pc = .ok (ins, s_len ins)) (hgo : s_pc t = pc + s_len ins) (hQ : ins = .ldc2_w i) (hlk : s_lkd o i kd a b0 v) (hk : kd = 11) (h : (some (.inr (t, L, (1, v) :: st, cn, sn, M)) : Option s_O) = some (.inr X')) (hP : s_hP P xs b σ ρ M X') : P (pc, s_cL σ ρ b L, st.map (s_cv σ ρ b), cn, sn, s_ch σ ρ b 0 M.2.2.2) := by
  cases h
  subst hk hQ
  obtain ⟨ps, hlk⟩ := hlk
  have k1 := s_stay (st := (1, v) :: st) hok hgo hP
  exact hcl _ ⟨_, _, hd, Or.inl (Or.inr (Or.inr (Or.inr (Or.inr (Or.inr (Or.inr (Or.inr (Or.inr (Or.inr (Or.inr (Or.inr ⟨_, _, _, _, _, _, rfl, rfl, Or.inl rfl, hlk, k1⟩)))))))))))⟩
theorem s_q11_ok (hcl : ∀ S, g_pre CALL o nL ini bc bs cc P S → P S) {a : Nat} (hok : s_ok xs σ M) (hd : decode cc pc = .ok (ins, s_len ins)) (hgo : s_pc t = pc + s_len ins) (hQ : s_ibn ins = some a) (h : s_q11 t L st cn sn M a = some (.inr X')) (hP : s_hP P xs b σ ρ M X') : P (pc, s_cL σ ρ b L, st.map (s_cv σ ρ b), cn, sn, s_ch σ ρ b 0 M.2.2.2) := by
  obtain ⟨g1, g2⟩ := s_ib_g hQ
  rw [g2] at hgo
  have fin : ∀ (x y : s_V) (rest : List s_V) (m n : Int32), s_cv σ ρ b x = .int m → s_cv σ ρ b y = .int n → P (pc + 1, s_cL σ ρ b L, Value.int (s_fib a m n) :: rest.map (s_cv σ ρ b), cn, sn, s_ch σ ρ b 0 M.2.2.2) → P (pc, s_cL σ ρ b L, (y :: x :: rest).map (s_cv σ ρ b), cn, sn, s_ch σ ρ b 0 M.2.2.2) := by
    intro x y rest m n ex ey k1
    refine hcl _ ⟨ins, _, hd, Or.inr (Or.inl (Or.inl ⟨_, m, n, rest.map (s_cv σ ρ b), g1, g2, ?_, k1⟩))⟩
    show s_cv σ ρ b y :: s_cv σ ρ b x :: _ = _
    rw [ex, ey]
  unfold s_q11 at h
  split at h
  next y x rest =>
    split at h
    next m n e1 e2 =>
      have k1 := s_push_ok (ρ := ρ) (P := P) (b := b) hok hgo h hP
      simp only [s_cv, s_iz] at k1
      exact fin x y rest _ _ (s_k_eq hok e1) (s_k_eq hok e2) k1
    next =>
      cases e3 : (Nat.beq a 1 && (Nat.beq x.1 2 && Nat.beq y.1 2))
      · rw [e3, cond_false] at h
        obtain ⟨h1, h⟩ := s_bif h
        rw [Bool.and_eq_true] at h1
        obtain ⟨m, em⟩ := s_tk_0 (σ := σ) (ρ := ρ) (b := b) h1.1
        obtain ⟨n, en⟩ := s_tk_0 (σ := σ) (ρ := ρ) (b := b) h1.2
        have k1 := s_fresh_ok (z := (s_fib a m n).toInt) hok hgo ⟨by have := Int32.le_toInt (s_fib a m n); omega, by have := Int32.toInt_lt (s_fib a m n); omega⟩ (Or.inl rfl) h hP
        rw [s_iz] at k1
        exact fin x y rest m n em en k1
      · rw [e3, cond_true] at h
        simp only [Bool.and_eq_true, Nat.beq_eq] at e3
        obtain ⟨ea, ex, ey⟩ := e3
        subst ea
        have hx : s_cv σ ρ b x = .int (Int32.ofInt (σ x.2.toNat)) := by obtain ⟨tx, nx⟩ := x; have ex' : tx = 2 := ex; subst ex'; rfl
        have hy : s_cv σ ρ b y = .int (Int32.ofInt (σ y.2.toNat)) := by obtain ⟨ty, ny⟩ := y; have ey' : ty = 2 := ey; subst ey'; rfl
        refine fin x y rest _ _ hx hy ?_
        show P (pc + 1, s_cL σ ρ b L, Value.int (Int32.ofInt (σ x.2.toNat) - Int32.ofInt (σ y.2.toNat)) :: rest.map (s_cv σ ρ b), cn, sn, s_ch σ ρ b 0 M.2.2.2)
        rw [← Int32.ofInt_sub]
        unfold s_q11v at h
        split at h
        next q e4 =>
          cases h
          have hm := List.mem_of_find?_eq_some e4
          have hp := List.find?_some e4
          simp only [Bool.and_eq_true, Nat.beq_eq] at hp
          have hB := hok.2.2.1 q hm
          rw [hp.1, hp.2] at hB
          have k1 := s_stay (st := (2, (q.2.2 : Int)) :: rest) hok hgo hP
          simp only [List.map_cons, s_cv, Int.toNat_natCast, hB] at k1
          exact k1
        next =>
          split at h
          next ix iy e5 e6 =>
            simp only [s_fi_eq, s_fn_eq] at h
            have b1 := hok.1 _ _ e5
            have b2 := hok.1 _ _ e6
            exact s_fresh_ok (z := σ x.2.toNat - σ y.2.toNat) hok hgo ⟨by omega, by omega⟩ (Or.inr ⟨_, _, rfl, (List.getElem?_eq_some_iff.mp e5).1, (List.getElem?_eq_some_iff.mp e6).1, rfl⟩) h hP
          next => cases h
  next => cases h
theorem s_q12_ok (hcl : ∀ S, g_pre CALL o nL ini bc bs cc P S → P S) {a : Nat} (hok : s_ok xs σ M) (hd : decode cc pc = .ok (ins, s_len ins)) (hgo : s_pc t = pc + s_len ins) (hQ : s_idn ins = some a) (h : s_q12 t L st cn sn M a = some (.inr X')) (hP : s_hP P xs b σ ρ M X') : P (pc, s_cL σ ρ b L, st.map (s_cv σ ρ b), cn, sn, s_ch σ ρ b 0 M.2.2.2) := by
  obtain ⟨g1, g2⟩ := s_id_g hQ
  rw [g2] at hgo
  unfold s_q12 at h
  split at h
  next y x rest =>
    split at h
    next m n e1 e2 =>
      obtain ⟨h1, h⟩ := s_bifn h
      have k1 := s_push_ok (ρ := ρ) (P := P) (b := b) hok hgo h hP
      simp only [s_cv, s_iz] at k1
      refine hcl _ ⟨ins, _, hd, Or.inr (Or.inl (Or.inr (Or.inl ⟨_, _, _, _, g1, g2, of_decide_eq_false h1, ?_, k1⟩)))⟩
      show s_cv σ ρ b y :: s_cv σ ρ b x :: _ = _
      rw [s_k_eq hok e1, s_k_eq hok e2]
    next => cases h
  next => cases h
theorem s_q13_ok (hcl : ∀ S, g_pre CALL o nL ini bc bs cc P S → P S) {a : Nat} (hok : s_ok xs σ M) (hd : decode cc pc = .ok (ins, s_len ins)) (hgo : s_pc t = pc + s_len ins) (hQ : s_iun ins = some a) (h : s_q13 t L st cn sn M a = some (.inr X')) (hP : s_hP P xs b σ ρ M X') : P (pc, s_cL σ ρ b L, st.map (s_cv σ ρ b), cn, sn, s_ch σ ρ b 0 M.2.2.2) := by
  obtain ⟨g1, g2⟩ := s_iu_g hQ
  rw [g2] at hgo
  have fin : ∀ (x : s_V) (rest : List s_V) (m : Int32), s_cv σ ρ b x = .int m → P (pc + 1, s_cL σ ρ b L, Value.int (s_fiu a m) :: rest.map (s_cv σ ρ b), cn, sn, s_ch σ ρ b 0 M.2.2.2) → P (pc, s_cL σ ρ b L, (x :: rest).map (s_cv σ ρ b), cn, sn, s_ch σ ρ b 0 M.2.2.2) := by
    intro x rest m ex k1
    refine hcl _ ⟨ins, _, hd, Or.inr (Or.inl (Or.inr (Or.inr (Or.inl ⟨_, m, rest.map (s_cv σ ρ b), g1, g2, ?_, k1⟩))))⟩
    show s_cv σ ρ b x :: _ = _
    rw [ex]
  unfold s_q13 at h
  split at h
  next x rest =>
    split at h
    next m e1 =>
      have k1 := s_push_ok (ρ := ρ) (P := P) (b := b) hok hgo h hP
      simp only [s_cv, s_iz] at k1
      exact fin x rest _ (s_k_eq hok e1) k1
    next =>
      obtain ⟨h1, h9⟩ := s_bif h
      clear h
      rw [Bool.and_eq_true, Nat.beq_eq] at h1
      obtain ⟨rfl, h1⟩ := h1
      obtain ⟨m, em⟩ := s_tk_0 (σ := σ) (ρ := ρ) (b := b) h1
      have k1 := s_fresh_ok (z := m.toInt8.toInt32.toInt) hok hgo ⟨by rw [Int8.toInt_toInt32]; have := Int8.le_toInt m.toInt8; omega, by rw [Int8.toInt_toInt32]; have := Int8.toInt_lt m.toInt8; omega⟩ (Or.inl rfl) h9 hP
      rw [s_iz] at k1
      exact fin x rest m em k1
  next => cases h
theorem s_fl1 (x : Int64) : s_flb 2 (Int64.ofInt 1) x = x ∧ s_flb 2 x (Int64.ofInt 1) = x := ⟨Int64.one_mul x, Int64.mul_one x⟩
theorem s_q14_ok (hcl : ∀ S, g_pre CALL o nL ini bc bs cc P S → P S) {a : Nat} (hok : s_ok xs σ M) (hd : decode cc pc = .ok (ins, s_len ins)) (hgo : s_pc t = pc + s_len ins) (hQ : s_lbn ins = some a) (h : s_q14 t L st cn sn M a = some (.inr X')) (hP : s_hP P xs b σ ρ M X') : P (pc, s_cL σ ρ b L, st.map (s_cv σ ρ b), cn, sn, s_ch σ ρ b 0 M.2.2.2) := by
  obtain ⟨g1, g2⟩ := s_lb_g hQ
  rw [g2] at hgo
  have fin : ∀ (x y : s_V) (rest : List s_V) (m n : Int64), s_cv σ ρ b x = .long m → s_cv σ ρ b y = .long n → P (pc + 1, s_cL σ ρ b L, Value.long (s_flb a m n) :: rest.map (s_cv σ ρ b), cn, sn, s_ch σ ρ b 0 M.2.2.2) → P (pc, s_cL σ ρ b L, (y :: x :: rest).map (s_cv σ ρ b), cn, sn, s_ch σ ρ b 0 M.2.2.2) := by
    intro x y rest m n ex ey k1
    refine hcl _ ⟨ins, _, hd, Or.inr (Or.inl (Or.inr (Or.inr (Or.inr (Or.inl ⟨_, m, n, rest.map (s_cv σ ρ b), g1, g2, ?_, k1⟩)))))⟩
    show s_cv σ ρ b y :: s_cv σ ρ b x :: _ = _
    rw [ex, ey]
  unfold s_q14 at h
  split at h
  next y x rest =>
    split at h
    next m n e1 e2 =>
      have k1 := s_push_ok (ρ := ρ) (P := P) (b := b) hok hgo h hP
      simp only [s_cv, s_lz] at k1
      exact fin x y rest _ _ (s_kl_eq hok e1) (s_kl_eq hok e2) k1
    next m e1 e2 =>
      obtain ⟨h1, h⟩ := s_bif h
      cases h
      simp only [Bool.and_eq_true, Nat.beq_eq, decide_eq_true_eq] at h1
      obtain ⟨rfl, rfl, h1⟩ := h1
      obtain ⟨n, en⟩ := s_tk_1 (σ := σ) (ρ := ρ) (b := b) h1
      have k1 := s_stay (st := y :: rest) hok hgo hP
      rw [List.map_cons, en] at k1
      exact fin x y rest _ n (s_kl_eq hok e1) en (by rw [(s_fl1 n).1]; exact k1)
    next n e1 e2 =>
      obtain ⟨h1, h⟩ := s_bif h
      cases h
      simp only [Bool.and_eq_true, Nat.beq_eq, decide_eq_true_eq] at h1
      obtain ⟨rfl, rfl, h1⟩ := h1
      obtain ⟨m, em⟩ := s_tk_1 (σ := σ) (ρ := ρ) (b := b) h1
      have k1 := s_stay (st := x :: rest) hok hgo hP
      rw [List.map_cons, em] at k1
      exact fin x y rest m _ em (s_kl_eq hok e2) (by rw [(s_fl1 m).2]; exact k1)
    next => cases h
  next => cases h
theorem s_fl2 (x : Int64) : s_fld 0 x (Int64.ofInt 1) = x ∧ s_fld 1 x (Int64.ofInt 1) = Int64.ofInt 0 := by
  have h1 : x / Int64.ofInt 1 = x := Int64.div_one
  refine ⟨h1, ?_⟩
  show x - x / Int64.ofInt 1 * Int64.ofInt 1 = Int64.ofInt 0
  rw [h1, show Int64.ofInt 1 = 1 from rfl, Int64.mul_one, Int64.sub_self]
  rfl
theorem s_q15_ok (hcl : ∀ S, g_pre CALL o nL ini bc bs cc P S → P S) {a : Nat} (hok : s_ok xs σ M) (hd : decode cc pc = .ok (ins, s_len ins)) (hgo : s_pc t = pc + s_len ins) (hQ : s_ldn ins = some a) (h : s_q15 t L st cn sn M a = some (.inr X')) (hP : s_hP P xs b σ ρ M X') : P (pc, s_cL σ ρ b L, st.map (s_cv σ ρ b), cn, sn, s_ch σ ρ b 0 M.2.2.2) := by
  obtain ⟨g1, g2⟩ := s_ldv_g hQ
  rw [g2] at hgo
  have fin : ∀ (x y : s_V) (rest : List s_V) (m n : Int64), ¬ n = 0 → s_cv σ ρ b x = .long m → s_cv σ ρ b y = .long n → P (pc + 1, s_cL σ ρ b L, Value.long (s_fld a m n) :: rest.map (s_cv σ ρ b), cn, sn, s_ch σ ρ b 0 M.2.2.2) → P (pc, s_cL σ ρ b L, (y :: x :: rest).map (s_cv σ ρ b), cn, sn, s_ch σ ρ b 0 M.2.2.2) := by
    intro x y rest m n hn ex ey k1
    refine hcl _ ⟨ins, _, hd, Or.inr (Or.inl (Or.inr (Or.inr (Or.inr (Or.inr (Or.inl ⟨_, m, n, rest.map (s_cv σ ρ b), g1, g2, hn, ?_, k1⟩))))))⟩
    show s_cv σ ρ b y :: s_cv σ ρ b x :: _ = _
    rw [ex, ey]
  unfold s_q15 at h
  split at h
  next y x rest =>
    split at h
    next m n e1 e2 =>
      obtain ⟨h1, h⟩ := s_bifn h
      have k1 := s_push_ok (ρ := ρ) (P := P) (b := b) hok hgo h hP
      simp only [s_cv, s_lz] at k1
      exact fin x y rest _ _ (of_decide_eq_false h1) (s_kl_eq hok e1) (s_kl_eq hok e2) k1
    next n e1 e2 =>
      cases e3 : (decide (n = 1) && (s_tk 1 x && Nat.beq a 1))
      · rw [e3, cond_false] at h
        obtain ⟨h1, h⟩ := s_bif h
        cases h
        simp only [Bool.and_eq_true, Nat.beq_eq, decide_eq_true_eq] at h1
        obtain ⟨rfl, h1, rfl⟩ := h1
        obtain ⟨m, em⟩ := s_tk_1 (σ := σ) (ρ := ρ) (b := b) h1
        have k1 := s_stay (st := x :: rest) hok hgo hP
        rw [List.map_cons, em] at k1
        exact fin x y rest m _ (by decide) em (s_kl_eq hok e2) (by rw [(s_fl2 m).1]; exact k1)
      · rw [e3, cond_true] at h
        cases h
        simp only [Bool.and_eq_true, Nat.beq_eq, decide_eq_true_eq] at e3
        obtain ⟨rfl, h1, rfl⟩ := e3
        obtain ⟨m, em⟩ := s_tk_1 (σ := σ) (ρ := ρ) (b := b) h1
        have k1 := s_stay (st := (1, 0) :: rest) hok hgo hP
        exact fin x y rest m _ (by decide) em (s_kl_eq hok e2) (by rw [(s_fl2 m).2]; exact k1)
    next => cases h
  next => cases h
theorem s_q16_ok (hcl : ∀ S, g_pre CALL o nL ini bc bs cc P S → P S) (hok : s_ok xs σ M) (hd : decode cc pc = .ok (ins, s_len ins)) (hgo : s_pc t = pc + s_len ins) (hQ : ins = .lneg) (h : s_q16 t L st cn sn M = some (.inr X')) (hP : s_hP P xs b σ ρ M X') : P (pc, s_cL σ ρ b L, st.map (s_cv σ ρ b), cn, sn, s_ch σ ρ b 0 M.2.2.2) := by
  subst hQ
  unfold s_q16 at h
  split at h
  next x rest =>
    split at h
    next m e1 =>
      have k1 := s_push_ok (ρ := ρ) (P := P) (b := b) hok hgo h hP
      simp only [s_cv, s_lz] at k1
      refine hcl _ ⟨_, _, hd, Or.inr (Or.inl (Or.inr (Or.inr (Or.inr (Or.inr (Or.inr (Or.inl ⟨_, _, rfl, rfl, ?_, k1⟩)))))))⟩
      show s_cv σ ρ b x :: _ = _
      rw [s_kl_eq hok e1]
    next => cases h
  next => cases h
theorem s_i2l {n : Int} (h : s_in32 n = true) : (Int32.ofInt n).toInt64 = Int64.ofInt n := by
  rw [← Int64.toInt_inj, Int32.toInt_toInt64, s_to32 h, s_to64]
  simp only [s_in32, s_in64, Bool.and_eq_true, decide_eq_true_eq] at h ⊢
  omega
theorem s_q17_ok (hcl : ∀ S, g_pre CALL o nL ini bc bs cc P S → P S) (hok : s_ok xs σ M) (hd : decode cc pc = .ok (ins, s_len ins)) (hgo : s_pc t = pc + s_len ins) (hQ : ins = .i2l) (h : s_q17 t L st cn sn M = some (.inr X')) (hP : s_hP P xs b σ ρ M X') : P (pc, s_cL σ ρ b L, st.map (s_cv σ ρ b), cn, sn, s_ch σ ρ b 0 M.2.2.2) := by
  subst hQ
  unfold s_q17 at h
  split at h
  next x rest =>
    split at h
    next m e1 =>
      have k1 := s_push_ok (ρ := ρ) (P := P) (b := b) hok hgo h hP
      simp only [s_cv, s_lz] at k1
      refine hcl _ ⟨_, _, hd, Or.inr (Or.inl (Or.inr (Or.inr (Or.inr (Or.inr (Or.inr (Or.inr (Or.inr (Or.inl ⟨_, _, rfl, rfl, ?_, k1⟩)))))))))⟩
      show s_cv σ ρ b x :: _ = _
      rw [s_k_eq hok e1]
    next =>
      split at h
      next r e2 =>
        obtain ⟨h1, h⟩ := s_bif h
        cases h
        rw [Nat.beq_eq] at h1
        obtain ⟨y, ey, -, -, hy, -⟩ := s_iv_eq (ρ := ρ) (b := b) hok e2
        have k1 := s_stay (st := (3, x.2) :: rest) hok hgo hP
        have hx := hy h1
        have e3 : s_cv σ ρ b (3, x.2) = .long y.toInt64 := by
          show Value.long (Int64.ofInt (σ x.2.toNat)) = _
          rw [hx, ← s_i2l, s_iz]
          simp only [s_in32, Bool.and_eq_true, decide_eq_true_eq]
          have := Int32.le_toInt y
          have := Int32.toInt_lt y
          omega
        rw [List.map_cons, e3] at k1
        refine hcl _ ⟨_, _, hd, Or.inr (Or.inl (Or.inr (Or.inr (Or.inr (Or.inr (Or.inr (Or.inr (Or.inr (Or.inl ⟨_, _, rfl, rfl, ?_, k1⟩)))))))))⟩
        show s_cv σ ρ b x :: _ = _
        rw [ey]
      next => cases h
  next => cases h
theorem s_q18_ok (hcl : ∀ S, g_pre CALL o nL ini bc bs cc P S → P S) (hok : s_ok xs σ M) (hd : decode cc pc = .ok (ins, s_len ins)) (hgo : s_pc t = pc + s_len ins) (hQ : ins = .l2i) (h : s_q18 t L st cn sn M = some (.inr X')) (hP : s_hP P xs b σ ρ M X') : P (pc, s_cL σ ρ b L, st.map (s_cv σ ρ b), cn, sn, s_ch σ ρ b 0 M.2.2.2) := by
  subst hQ
  unfold s_q18 at h
  split at h
  next x rest =>
    split at h
    next m e1 =>
      have k1 := s_push_ok (ρ := ρ) (P := P) (b := b) hok hgo h hP
      simp only [s_cv, s_iz] at k1
      refine hcl _ ⟨_, _, hd, Or.inr (Or.inl (Or.inr (Or.inr (Or.inr (Or.inr (Or.inr (Or.inr (Or.inr (Or.inr (Or.inl ⟨_, _, rfl, rfl, ?_, k1⟩))))))))))⟩
      show s_cv σ ρ b x :: _ = _
      rw [s_kl_eq hok e1]
    next => cases h
  next => cases h
theorem s_isv2 {v : s_V} {z : Int} (h : v.1 = 0 ∨ v.1 = 2) (h2 : v.1 = 2 → σ v.2.toNat = z) : s_isv v = true → σ v.2.toNat = z := by
  intro h3
  rcases h with h | h
  · unfold s_isv at h3; rw [h] at h3; cases h3
  · exact h2 h
theorem s_isv3 {v : s_V} {z : Int} (h : v.1 = 1 ∨ v.1 = 3) (h2 : v.1 = 3 → σ v.2.toNat = z) : s_isv v = true → σ v.2.toNat = z := by
  intro h3
  rcases h with h | h
  · unfold s_isv at h3; rw [h] at h3; cases h3
  · exact h2 h
theorem s_o_inl {c : Option (Nat × Nat × Int)} (h : s_o c = some (.inr X')) : False := by
  unfold s_o at h
  split at h <;> cases h
theorem s_q19_ok (hcl : ∀ S, g_pre CALL o nL ini bc bs cc P S → P S) (hok : s_ok xs σ M) (hd : decode cc pc = .ok (ins, s_len ins)) (hgo : s_pc t = pc + s_len ins) (hQ : ins = .lcmp) (h : s_q19 t L st cn sn M = some (.inr X')) (hP : s_hP P xs b σ ρ M X') : P (pc, s_cL σ ρ b L, st.map (s_cv σ ρ b), cn, sn, s_ch σ ρ b 0 M.2.2.2) := by
  subst hQ
  unfold s_q19 at h
  split at h
  next y x rest =>
    split at h
    next ix iy e1 e2 =>
      obtain ⟨x', ex, hx1, hx2, hx3, hx4⟩ := s_ivl_eq (ρ := ρ) (b := b) hok e1
      obtain ⟨y', ey, hy1, hy2, hy3, hy4⟩ := s_ivl_eq (ρ := ρ) (b := b) hok e2
      have fin : ∀ (z : Int), Int32.ofInt z = lg_cmp x' y' → X' = (t, L, (0, z) :: rest, cn, sn, M) → P (pc, s_cL σ ρ b L, (y :: x :: rest).map (s_cv σ ρ b), cn, sn, s_ch σ ρ b 0 M.2.2.2) := by
        intro z hz hX
        subst hX
        have k1 := s_stay (st := (0, z) :: rest) hok hgo hP
        rw [List.map_cons, show s_cv σ ρ b (0, z) = .int (Int32.ofInt z) from rfl, hz] at k1
        refine hcl _ ⟨_, _, hd, Or.inr (Or.inl (Or.inr (Or.inr (Or.inr (Or.inr (Or.inr (Or.inr (Or.inl ⟨_, _, _, rfl, rfl, ?_, k1⟩))))))))⟩
        show s_cv σ ρ b y :: s_cv σ ρ b x :: _ = _
        rw [ex, ey]
      have l1 := s_lt_eq hok.2.1 ⟨hx1, hx2⟩ ⟨hy1, hy2⟩ (s_isv3 hx4 hx3) (s_isv3 hy4 hy3)
      have q1 := s_eq_eq ⟨hx1, hx2⟩ ⟨hy1, hy2⟩ (s_isv3 hx4 hx3) (s_isv3 hy4 hy3)
      split at h
      next e3 =>
        have h1 := l1.1 e3
        cases h
        refine fin (-1) ?_ rfl
        unfold lg_cmp
        rw [if_neg (show ¬ x' > y' from fun h2 => by have := Int64.lt_iff_toInt_lt.mp h2; omega), if_neg (fun h2 => by rw [h2] at h1; omega)]
        rfl
      next e3 =>
        have h1 := l1.2 e3
        split at h
        next e4 =>
          have h2 := q1.1 e4
          cases h
          refine fin 0 ?_ rfl
          have h3 : x' = y' := Int64.toInt_inj.mp h2
          subst h3
          unfold lg_cmp
          rw [if_neg (show ¬ x' > x' from fun h2 => by have := Int64.lt_iff_toInt_lt.mp h2; omega), if_pos rfl]
          rfl
        next e4 =>
          have h2 := q1.2 e4
          cases h
          refine fin 1 ?_ rfl
          unfold lg_cmp
          rw [if_pos (show x' > y' from Int64.lt_iff_toInt_lt.mpr (by omega))]
          rfl
        next => exact (s_o_inl h).elim
      next => exact (s_o_inl h).elim
    next => cases h
  next => cases h
end S22
