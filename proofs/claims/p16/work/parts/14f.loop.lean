-- joined: 14f.loop, 14g.run, 30.line, 31.info
section
-- loops and methods of the machine over bounds are the plain machine's
section S26
theorem s_tkn_eq : ∀ (n : Nat) (st acc as rest : List s_V), s_tkn n st acc = some (as, rest) → ∃ l, as = l.reverse ++ acc ∧ st = l ++ rest ∧ l.length = n
  | 0, st, acc, as, rest, h => by cases h; exact ⟨[], rfl, rfl, rfl⟩
  | n + 1, v :: st, acc, as, rest, h => by
    obtain ⟨l, h1, h2, h3⟩ := s_tkn_eq n st (v :: acc) as rest h
    exact ⟨v :: l, by rw [h1]; simp, by rw [h2]; rfl, by simp [h3]⟩
  | _ + 1, [], _, _, _, h => by cases h
theorem s_all_in {β γ : Type} {f : β → Option (List γ)} : ∀ {l : List β} {r : List γ}, s_all f l = some r → ∀ o ∈ l, ∃ a, f o = some a ∧ ∀ x ∈ a, x ∈ r
  | [], r, h, o, ho => by cases ho
  | u :: l, r, h, o, ho => by
    simp only [s_all] at h
    split at h
    next => cases h
    next a e =>
      split at h
      next => cases h
      next b e2 =>
        cases h
        rcases List.mem_cons.mp ho with rfl | ho
        · exact ⟨a, e, fun x hx => List.mem_append_left _ hx⟩
        · obtain ⟨a2, e3, e4⟩ := s_all_in e2 o ho
          exact ⟨a2, e3, fun x hx => List.mem_append_right _ (e4 x hx)⟩
theorem s_all_out {β γ : Type} {f : β → Option (List γ)} : ∀ {l : List β} {r : List γ}, s_all f l = some r → ∀ x ∈ r, ∃ o ∈ l, ∃ a, f o = some a ∧ x ∈ a
  | [], r, h, x, hx => by cases h; cases hx
  | u :: l, r, h, x, hx => by
    simp only [s_all] at h
    split at h
    next => cases h
    next a e =>
      split at h
      next => cases h
      next b e2 =>
        cases h
        rcases List.mem_append.mp hx with hx | hx
        · exact ⟨u, List.mem_cons_self, a, e, hx⟩
        · obtain ⟨o, ho, a2, e3, e4⟩ := s_all_out e2 x hx
          exact ⟨o, List.mem_cons_of_mem _ ho, a2, e3, e4⟩
def s_rtok (rt : Nat) (r : Option FieldType) : Prop := match rt with
  | 0 => r = none
  | 1 => r = some .int
  | 2 => r = some .boolean
  | 3 => r = some .long
  | 4 => ∃ n, r = some (.object n)
  | _ => True
/-- the table of methods is right -/
def s_miok (mi : List s_MI) : Prop := ∀ j q, mi[j]? = some q → j < g_mt.length ∧ g_nl j = q.1 ∧ s_rtok q.2.1 (g_rt j) ∧ ((g_y j).name == "<init>") = q.2.2.1 ∧ (g_me j).2.1 = q.2.2.2.2.2
/-- calls are sound -/
def s_CS (xs : Nat → Int) (mi : List s_MI) (K : s_Call) (CALL : Nat → List Value → g_H → Nat → Nat → (Option Value → g_H → Prop) → Prop) : Prop :=
  ∀ j as M outs, K j as M = some outs → (∀ out ∈ outs, M.1.length ≤ out.2.1.length ∧ M.2.2.2.length ≤ out.2.2.2.2.length) ∧
    ∀ σ ρ b, s_ok xs σ M → ∀ q, mi[j]? = some q → ∀ post : Option Value → g_H → Prop, (∀ out ∈ outs, ∀ (σ' : Nat → Int) (ρ' : Nat → Nat), (∀ i, i < M.1.length → σ' i = σ i) → (∀ i, i < M.2.2.2.length → ρ' i = ρ i) → s_ok xs σ' out.2 → post (out.1.map (s_cv σ' ρ' b)) (s_ch σ' ρ' b 0 out.2.2.2.2)) → CALL j (as.map (s_cv σ ρ b)) (s_ch σ ρ b 0 M.2.2.2) q.2.2.2.1 q.2.2.2.2.1 post
variable {P : g_S → Prop} {xs : Nat → Int} {b : Nat} {CALL : Nat → List Value → g_H → Nat → Nat → (Option Value → g_H → Prop) → Prop} {cc : ByteArray} {o nL : Nat} {ini : Bool} {bc bs : Nat} {K : s_Call} {full : List s_I} {ft : s_FT} {mi : List s_MI} {scr : Nat}
variable {M : s_M} {σ : Nat → Int} {ρ : Nat → Nat} {t : List s_I} {L : s_L} {st : List s_V} {cn sn : Nat}
theorem s_cut_ok {c : Nat × Nat × Int} {M1 M2 : s_M} (h : s_cut M c = some (M1, M2)) : (M1.1.length = M.1.length ∧ M1.2.2.2 = M.2.2.2) ∧ (M2.1.length = M.1.length ∧ M2.2.2.2 = M.2.2.2) ∧ (s_ok xs σ M → s_ok xs σ M1 ∨ s_ok xs σ M2) := by
  obtain ⟨E, R, B, H⟩ := M
  unfold s_cut at h
  split at h
  next k m =>
    simp only at h
    split at h
    next lo hi e =>
      simp only [s_fi_eq, s_eset_eq, Option.some.injEq, Prod.mk.injEq] at h
      obtain ⟨rfl, rfl⟩ := h
      refine ⟨⟨List.length_set, rfl⟩, ⟨List.length_set, rfl⟩, fun hok => ?_⟩
      have e' : E[k]? = some (lo, hi) := e
      have hk := hok.1 k (lo, hi) e'
      have hlk : k < E.length := (List.getElem?_eq_some_iff.mp e').1
      have key : ∀ r' : Int × Int, r'.1 ≤ σ k ∧ σ k ≤ r'.2 → s_ok xs σ (E.set k r', R, B, H) := by
        intro r' hr
        refine ⟨fun i r hi => ?_, hok.2⟩
        have hi' : (E.set k r')[i]? = some r := hi
        by_cases h1 : k = i
        · subst h1
          rw [List.getElem?_set_self hlk] at hi'
          cases hi'
          exact hr
        · rw [List.getElem?_set_ne h1] at hi'
          exact hok.1 i r hi'
      by_cases hm : σ k < m
      · exact Or.inl (key _ ⟨hk.1, by show σ k ≤ m - 1; omega⟩)
      · exact Or.inr (key _ ⟨by show m ≤ σ k; omega, hk.2⟩)
    next => cases h
  next w i j hw =>
    simp only [s_fn_eq] at h
    split at h
    next a b c d e1 e2 =>
      simp only [s_fi_eq, s_eset_eq, Option.some.injEq, Prod.mk.injEq] at h
      obtain ⟨rfl, rfl⟩ := h
      refine ⟨⟨by rw [List.length_set, List.length_set], rfl⟩, ⟨by rw [List.length_set, List.length_set], rfl⟩, fun hok => ?_⟩
      have e1' : E[i]? = some (a, b) := e1
      have e2' : E[Int.toNat j]? = some (c, d) := e2
      have hi1 := hok.1 i (a, b) e1'
      have hj1 := hok.1 (Int.toNat j) (c, d) e2'
      dsimp only at hi1 hj1
      have key : ∀ (E' : s_E) (k : Nat) (r' : Int × Int), (∀ i r, E'[i]? = some r → r.1 ≤ σ i ∧ σ i ≤ r.2) → r'.1 ≤ σ k ∧ σ k ≤ r'.2 → ∀ i r, (E'.set k r')[i]? = some r → r.1 ≤ σ i ∧ σ i ≤ r.2 := by
        intro E' k r' hE hr i r hi'
        by_cases h1 : k = i
        · subst h1
          have hlk : k < E'.length := by
            have := (List.getElem?_eq_some_iff.mp hi').1
            rw [List.length_set] at this
            exact this
          rw [List.getElem?_set_self hlk] at hi'
          cases hi'
          exact hr
        · rw [List.getElem?_set_ne h1] at hi'
          exact hE i r hi'
      by_cases hm : σ i < σ (Int.toNat j)
      · refine Or.inl ⟨key _ _ _ (key _ _ _ hok.1 ⟨hi1.1, s_min_le hi1.2 (by omega)⟩) ⟨s_max_le hj1.1 (by omega), hj1.2⟩, fun q hq => ?_, hok.2.2⟩
        rcases List.mem_cons.mp hq with rfl | hq
        · show σ i + 1 ≤ σ (Int.toNat j); omega
        · exact hok.2.1 q hq
      · refine Or.inr ⟨key _ _ _ (key _ _ _ hok.1 ⟨hj1.1, s_min_le hj1.2 (by omega)⟩) ⟨s_max_le hi1.1 (by omega), hi1.2⟩, fun q hq => ?_, hok.2.2⟩
        rcases List.mem_cons.mp hq with rfl | hq
        · show σ (Int.toNat j) + 0 ≤ σ i; omega
        · exact hok.2.1 q hq
    next => cases h
theorem s_cok_eq {q : s_MI} {r : s_I} {rest : List s_V} (h : s_cok bc bs cn sn q r t L rest M = true) : s_sum rest ≤ 8 ∧ cn + q.2.2.2.1 ≤ bc ∧ sn + q.2.2.2.2.1 ≤ bs ∧ s_go r t = true ∧ s_wL M.1.length M.2.2.2.length L = true ∧ rest.all (s_wV M.1.length M.2.2.2.length) = true := by
  simp only [s_cok, Bool.and_eq_true] at h
  exact ⟨Nat.le_of_ble_eq_true h.1, Nat.le_of_ble_eq_true h.2.1, Nat.le_of_ble_eq_true h.2.2.1, h.2.2.2.1, h.2.2.2.2.1, h.2.2.2.2.2⟩
/-- a call instruction -/
theorem s_doE_ok (hcl : ∀ S, g_pre CALL o nL ini bc bs cc P S → P S) (hmi : s_miok mi) {pc len q kd a k : Nat} {v : Int} {ins : Instr} (hq : q = 34 ∨ q = 35 ∨ q = 36) (hI : s_okI cc o (pc, len, q, kd, a, k, v, ins) = true) {j mc ms : Nat} {as rest : List s_V} (h : s_doE mi bc bs (pc, len, q, kd, a, k, v, ins) t L st cn sn M = some (j, as, rest, mc, ms)) :
    ∃ Q, mi[j]? = some Q ∧ mc = Q.2.2.2.1 ∧ ms = Q.2.2.2.2.1 ∧ s_pc t = pc + 3 ∧ s_wL M.1.length M.2.2.2.length L = true ∧ rest.all (s_wV M.1.length M.2.2.2.length) = true ∧
      ∀ (σ : Nat → Int) (ρ : Nat → Nat) (b : Nat), CALL j (as.map (s_cv σ ρ b)) (s_ch σ ρ b 0 M.2.2.2) mc ms (fun r h' => P (pc + 3, s_cL σ ρ b L, r.toList ++ rest.map (s_cv σ ρ b), cn + mc, sn + ms, h')) → P (pc, s_cL σ ρ b L, st.map (s_cv σ ρ b), cn, sn, s_ch σ ρ b 0 M.2.2.2) := by
  obtain ⟨⟨n, hd, hlen, hne⟩, hQ, hlk⟩ := s_okI_eq hI (by omega)
  replace hlk := hlk (by omega)
  have hn := hne (by omega)
  rw [hn] at hd hlen
  clear hne hI
  rcases hq with rfl | rfl | rfl
  · have h1 : s_q34 mi bc bs (pc, len, 34, kd, a, k, v, ins) t L st cn sn M kd a k = some (j, as, rest, mc, ms) := h
    have hQ' : ∃ i, ins = .invokevirtual i := by
      clear h h1 hd hlk hlen hn hcl
      revert hQ
      cases ins <;> intro hQ <;> first | exact ⟨_, rfl⟩ | cases hQ
    obtain ⟨i, rfl⟩ := hQ'
    obtain ⟨ps, hlk⟩ := hlk i rfl
    unfold s_q34 at h1
    split at h1
    next as' u rest' e1 =>
      split at h1
      next c Q e2 e3 =>
        obtain ⟨h2, h3⟩ := s_bif h1
        cases h3
        simp only [Bool.and_eq_true, Bool.or_eq_true, Nat.beq_eq, Bool.not_eq_true'] at h2
        obtain ⟨hkd, hc1, hc2, hck⟩ := h2
        obtain ⟨k1, k2, k3, k4, k5, k6⟩ := s_cok_eq hck
        obtain ⟨l, g1, g2, g3⟩ := s_tkn_eq _ _ _ _ _ e1
        rw [List.append_nil] at g1
        have hgo : s_pc t = pc + 3 := by have := s_go_eq k4; rw [this]; show pc + len = _; rw [hlen]; rfl
        refine ⟨Q, e3, rfl, rfl, hgo, k5, k6, fun σ ρ b hcall => ?_⟩
        obtain ⟨c1, c2, -⟩ := s_cell_eq (σ := σ) (ρ := ρ) (b := b) e2
        obtain ⟨y, tag, n', d, fs⟩ := c
        have hy : y = false := hc1
        have ht : tag = Q.2.2.2.2.2 := hc2
        subst hy
        have hm := hmi _ _ e3
        rw [ht, ← hm.2.2.2.2] at c2
        have est : st.map (s_cv σ ρ b) = (as'.map (s_cv σ ρ b)).reverse ++ Value.ref (ρ u.2.toNat) :: rest.map (s_cv σ ρ b) := by
          rw [g2, g1, List.map_reverse, List.reverse_reverse, List.map_append, List.map_cons, c1]
        rw [List.map_cons, c1] at hcall
        exact hcl _ ⟨_, _, hd, Or.inr (Or.inr (Or.inr (Or.inr (Or.inl ⟨i, kd, _, k, v, ps, as'.map (s_cv σ ρ b), ρ u.2.toNat, rest.map (s_cv σ ρ b), u.2.toNat, n', _, _, _, rfl, rfl, hkd, hlk, est, by rw [List.length_map, g1, List.length_reverse, g3], c2, by rw [s_sum_eq]; exact k1, k2, k3, hcall⟩))))⟩
      next => cases h1
    next => cases h1
  · have h1 : s_q35 mi bc bs (pc, len, 35, kd, a, k, v, ins) t L st cn sn M kd a k = some (j, as, rest, mc, ms) := h
    have hQ' : ∃ i, ins = .invokestatic i := by
      clear h h1 hd hlk hlen hn hcl
      revert hQ
      cases ins <;> intro hQ <;> first | exact ⟨_, rfl⟩ | cases hQ
    obtain ⟨i, rfl⟩ := hQ'
    obtain ⟨ps, hlk⟩ := hlk i rfl
    unfold s_q35 at h1
    split at h1
    next as' rest' e1 =>
      split at h1
      next Q e3 =>
        obtain ⟨h2, h3⟩ := s_bif h1
        cases h3
        simp only [Bool.and_eq_true, Bool.or_eq_true, Nat.beq_eq] at h2
        obtain ⟨hkd, hck⟩ := h2
        obtain ⟨k1, k2, k3, k4, k5, k6⟩ := s_cok_eq hck
        obtain ⟨l, g1, g2, g3⟩ := s_tkn_eq _ _ _ _ _ e1
        rw [List.append_nil] at g1
        have hgo : s_pc t = pc + 3 := by have := s_go_eq k4; rw [this]; show pc + len = _; rw [hlen]; rfl
        refine ⟨Q, e3, rfl, rfl, hgo, k5, k6, fun σ ρ b hcall => ?_⟩
        have est : st.map (s_cv σ ρ b) = (as.map (s_cv σ ρ b)).reverse ++ rest.map (s_cv σ ρ b) := by
          rw [g2, g1, List.map_reverse, List.reverse_reverse, List.map_append]
        exact hcl _ ⟨_, _, hd, Or.inr (Or.inr (Or.inr (Or.inr (Or.inr (Or.inl ⟨i, kd, _, k, v, ps, as.map (s_cv σ ρ b), rest.map (s_cv σ ρ b), _, _, rfl, rfl, hkd, hlk, est, by rw [List.length_map, g1, List.length_reverse, g3], by rw [s_sum_eq]; exact k1, k2, k3, hcall⟩)))))⟩
      next => cases h1
    next => cases h1
  · have h1 : s_q36 mi bc bs (pc, len, 36, kd, a, k, v, ins) t L st cn sn M kd a k = some (j, as, rest, mc, ms) := h
    have hQ' : ∃ i, ins = .invokespecial i := by
      clear h h1 hd hlk hlen hn hcl
      revert hQ
      cases ins <;> intro hQ <;> first | exact ⟨_, rfl⟩ | cases hQ
    obtain ⟨i, rfl⟩ := hQ'
    obtain ⟨ps, hlk⟩ := hlk i rfl
    unfold s_q36 at h1
    split at h1
    next as' u rest' e1 =>
      split at h1
      next c Q e2 e3 =>
        obtain ⟨h2, h3⟩ := s_bif h1
        cases h3
        simp only [Bool.and_eq_true, Bool.or_eq_true, Nat.beq_eq] at h2
        obtain ⟨hkd, hck⟩ := h2
        obtain ⟨k1, k2, k3, k4, k5, k6⟩ := s_cok_eq hck
        obtain ⟨l, g1, g2, g3⟩ := s_tkn_eq _ _ _ _ _ e1
        rw [List.append_nil] at g1
        have hgo : s_pc t = pc + 3 := by have := s_go_eq k4; rw [this]; show pc + len = _; rw [hlen]; rfl
        refine ⟨Q, e3, rfl, rfl, hgo, k5, k6, fun σ ρ b hcall => ?_⟩
        obtain ⟨c1, -, -⟩ := s_cell_eq (σ := σ) (ρ := ρ) (b := b) e2
        have est : st.map (s_cv σ ρ b) = (as'.map (s_cv σ ρ b)).reverse ++ Value.ref (ρ u.2.toNat) :: rest.map (s_cv σ ρ b) := by
          rw [g2, g1, List.map_reverse, List.reverse_reverse, List.map_append, List.map_cons, c1]
        rw [List.map_cons, c1] at hcall
        exact hcl _ ⟨_, _, hd, Or.inr (Or.inr (Or.inr (Or.inr (Or.inr (Or.inr (Or.inl ⟨i, kd, _, k, v, ps, as'.map (s_cv σ ρ b), ρ u.2.toNat, rest.map (s_cv σ ρ b), _, _, rfl, rfl, hkd, hlk, est, by rw [List.length_map, g1, List.length_reverse, g3], by rw [s_sum_eq]; exact k1, k2, k3, hcall⟩))))))⟩
      next => cases h1
    next => cases h1
theorem s_jump_in {pc : Nat} : ∀ {l t' : List s_I}, s_jump l pc = some t' → ∀ r ∈ t', r ∈ l
  | [], _, h => by cases h
  | r :: t, t', h => by
    simp only [s_jump] at h
    cases e : Nat.beq r.1 pc
    · rw [e, cond_false] at h; exact fun x hx => List.mem_cons_of_mem _ (s_jump_in h x hx)
    · rw [e, cond_true] at h
      cases h
      exact fun x hx => hx
/-- A LOOP: where all its ends hold, so does its start -/
theorem s_loop_ok (hcl : ∀ S, g_pre CALL o nL ini bc bs cc P S → P S) (hscr : s_scr scr cc b xs P) (hft : s_ftok ft) (hdf : s_dfok ft) (hmi : s_miok mi) (hCS : s_CS xs mi K CALL) (hfull : ∀ r ∈ full, s_okI cc o r = true) :
    ∀ (n : Nat) (X : s_X) (outs : List s_X), s_loop K full ft mi scr o nL ini bc bs n X = some outs → (∀ r ∈ X.1, s_okI cc o r = true) →
      (∀ Y ∈ outs, X.2.2.2.2.2.1.length ≤ Y.2.2.2.2.2.1.length ∧ X.2.2.2.2.2.2.2.2.length ≤ Y.2.2.2.2.2.2.2.2.length ∧ ∀ r ∈ Y.1, s_okI cc o r = true) ∧
      ∀ (σ : Nat → Int) (ρ : Nat → Nat), s_ok xs σ X.2.2.2.2.2 → (∀ Y ∈ outs, ∀ (σ' : Nat → Int) (ρ' : Nat → Nat), (∀ i, i < X.2.2.2.2.2.1.length → σ' i = σ i) → (∀ i, i < X.2.2.2.2.2.2.2.2.length → ρ' i = ρ i) → s_ok xs σ' Y.2.2.2.2.2 → P (s_cX σ' ρ' b Y)) → P (s_cX σ ρ b X) := by
  intro n
  induction n with
  | zero => intro X outs h; cases h
  | succ n ih =>
    intro X outs h hX
    obtain ⟨code, L, st, cn, sn, M⟩ := X
    match code, h, hX with
    | r :: t, h, hX =>
      obtain ⟨pc, len, q, kd, a, k, v, ins⟩ := r
      have hr := hX _ List.mem_cons_self
      have ht : ∀ r ∈ t, s_okI cc o r = true := fun r hr => hX r (List.mem_cons_of_mem _ hr)
      simp only [s_loop] at h
      by_cases hq : 40 ≤ q
      · have : Nat.ble 40 q = true := Nat.ble_eq.mpr hq
        rw [this, cond_true] at h
        cases h
        refine ⟨fun Y hY => ?_, fun σ ρ hok hY => ?_⟩
        · rw [List.mem_singleton] at hY
          subst hY
          exact ⟨Nat.le_refl _, Nat.le_refl _, hX⟩
        · exact hY _ (List.mem_singleton.mpr rfl) σ ρ (fun _ _ => rfl) (fun _ _ => rfl) hok
      · have : Nat.ble 40 q = false := by
          cases e : Nat.ble 40 q
          · rfl
          · exact absurd (Nat.le_of_ble_eq_true e) hq
        rw [this, cond_false] at h
        cases e : (Nat.ble 34 q && Nat.blt q 37)
        · rw [e, cond_false] at h
          unfold s_res at h
          split at h
          next => cases h
          next X1 e1 =>
            have hgd := s_gd_do X1 e1
            have hX1 : ∀ r ∈ X1.1, s_okI cc o r = true := by
              rcases hgd.2.2 with e2 | ⟨pc', e2⟩
              · rw [e2]; exact ht
              · exact fun r hr => hfull r (s_jump_in e2 r hr)
            obtain ⟨i1, i2⟩ := ih X1 outs h hX1
            refine ⟨fun Y hY => ⟨Nat.le_trans hgd.1 (i1 Y hY).1, Nat.le_trans hgd.2.1 (i1 Y hY).2.1, (i1 Y hY).2.2⟩, fun σ ρ hok hY => ?_⟩
            refine s_do_ok hcl hscr hft hdf hok (by omega) hr e1 ?_
            intro σ' ρ' a1 a2 hok'
            exact i2 σ' ρ' hok' (fun Y hYm σ2 ρ2 b1 b2 hok2 => hY Y hYm σ2 ρ2 (fun i hi => (b1 i (Nat.lt_of_lt_of_le hi hgd.1)).trans (a1 i hi)) (fun i hi => (b2 i (Nat.lt_of_lt_of_le hi hgd.2.1)).trans (a2 i hi)) hok2)
          next c e1 =>
            split at h
            next => cases h
            next MM e2 =>
              obtain ⟨M1, M2⟩ := MM
              obtain ⟨⟨l1, l2⟩, ⟨l3, l4⟩, hc⟩ := s_cut_ok (xs := xs) (σ := fun _ => 0) e2
              unfold s_two at h
              split at h
              next => cases h
              next x1 e3 =>
                split at h
                next => cases h
                next x2 e4 =>
                  cases h
                  obtain ⟨i1, i2⟩ := ih _ _ e3 hX
                  obtain ⟨i3, i4⟩ := ih _ _ e4 hX
                  refine ⟨fun Y hY => ?_, fun σ ρ hok hY => ?_⟩
                  · rcases List.mem_append.mp hY with hY | hY
                    · have := i1 Y hY
                      exact ⟨by rw [← l1]; exact this.1, by rw [← l2]; exact this.2.1, this.2.2⟩
                    · have := i3 Y hY
                      exact ⟨by rw [← l3]; exact this.1, by rw [← l4]; exact this.2.1, this.2.2⟩
                  · obtain ⟨-, -, hc2⟩ := s_cut_ok (xs := xs) (σ := σ) e2
                    rcases hc2 hok with hok1 | hok2
                    · have := i2 σ ρ hok1 (fun Y hYm σ2 ρ2 b1 b2 hk => hY Y (List.mem_append_left _ hYm) σ2 ρ2 (fun i hi => b1 i (by rw [← l1] at hi; exact hi)) (fun i hi => b2 i (by rw [← l2] at hi; exact hi)) hk)
                      unfold s_cX at this ⊢
                      dsimp only at this ⊢
                      rw [l2] at this
                      exact this
                    · have := i4 σ ρ hok2 (fun Y hYm σ2 ρ2 b1 b2 hk => hY Y (List.mem_append_right _ hYm) σ2 ρ2 (fun i hi => b1 i (by rw [← l3] at hi; exact hi)) (fun i hi => b2 i (by rw [← l4] at hi; exact hi)) hk)
                      unfold s_cX at this ⊢
                      dsimp only at this ⊢
                      rw [l4] at this
                      exact this
        · rw [e, cond_true] at h
          rw [Bool.and_eq_true, Nat.blt_eq] at e
          have h34 := Nat.le_of_ble_eq_true e.1
          unfold s_cal at h
          split at h
          next => cases h
          next j as rest mc ms e1 =>
            split at h
            next => cases h
            next outs0 e2 =>
              obtain ⟨Q, m1, m2, m3, hgo, w1, w2, hcall⟩ := s_doE_ok hcl hmi (by omega) hr e1
              obtain ⟨c1, c2⟩ := hCS j as M outs0 e2
              refine ⟨fun Y hY => ?_, fun σ ρ hok hY => ?_⟩
              · obtain ⟨out, ho, x, e3, e4⟩ := s_all_out h Y hY
                simp only [s_fn_eq] at e3
                obtain ⟨i1, -⟩ := ih _ _ e3 ht
                have := i1 Y e4
                exact ⟨Nat.le_trans (c1 out ho).1 this.1, Nat.le_trans (c1 out ho).2 this.2.1, this.2.2⟩
              · refine hcall σ ρ b ?_
                rw [m2, m3]
                refine c2 σ ρ b hok Q m1 _ ?_
                intro out ho σ' ρ' a1 a2 hok'
                obtain ⟨x, e3, e4⟩ := s_all_in h out ho
                simp only [s_fn_eq] at e3
                obtain ⟨-, i2⟩ := ih _ _ e3 ht
                have key := i2 σ' ρ' hok' (fun Y hYm σ2 ρ2 b1 b2 hk => hY Y (e4 Y hYm) σ2 ρ2 (fun i hi => (b1 i (Nat.lt_of_lt_of_le hi (c1 out ho).1)).trans (a1 i hi)) (fun i hi => (b2 i (Nat.lt_of_lt_of_le hi (c1 out ho).2)).trans (a2 i hi)) hk)
                have e5 : s_cX σ' ρ' b (t, L, out.1.toList ++ rest, cn + mc, sn + ms, out.2) = (pc + 3, s_cL σ ρ b L, (out.1.map (s_cv σ' ρ' b)).toList ++ rest.map (s_cv σ ρ b), cn + Q.2.2.2.1, sn + Q.2.2.2.2.1, s_ch σ' ρ' b 0 out.2.2.2.2) := by
                  unfold s_cX
                  dsimp only
                  rw [hgo, s_wL_ag w1 a1 a2, List.map_append, s_wS_ag w2 a1 a2, m2, m3]
                  congr 3
                  cases out.1 <;> rfl
                rw [e5] at key
                exact key
end S26
end
section
-- methods of the machine over bounds are the plain machine's
section S27
variable {σ : Nat → Int} {ρ : Nat → Nat} {b : Nat}
theorem s_args_eq : ∀ (i : Nat) (as : List s_V), s_cL σ ρ b (s_args i as) = lv_args i (as.map (s_cv σ ρ b))
  | _, [] => rfl
  | i, v :: vs => by
    have h := s_args_eq (if s_c2 v = true then i + 2 else i + 1) vs
    show (i, s_cv σ ρ b v) :: s_cL σ ρ b (s_args (bif s_c2 v then i + 2 else i + 1) vs) = (i, s_cv σ ρ b v) :: lv_args (if (s_cv σ ρ b v).category = 2 then i + 2 else i + 1) (vs.map (s_cv σ ρ b))
    rw [s_cat]
    cases e : s_c2 v
    · rw [e] at h
      exact congrArg _ h
    · rw [e] at h
      exact congrArg _ h
theorem s_sl_eq : ∀ (as : List s_V), (lg_sl (as.map (s_cv σ ρ b))).length = s_sum as
  | [] => rfl
  | v :: vs => by
    have h := s_sl_eq vs
    have e0 : lg_sl ((v :: vs).map (s_cv σ ρ b)) = (if (s_cv σ ρ b v).category = 2 then [Slot.val (s_cv σ ρ b v), .second] else [Slot.val (s_cv σ ρ b v)]) ++ lg_sl (vs.map (s_cv σ ρ b)) := by
      unfold lg_sl
      rw [List.map_cons, List.flatMap_cons]
    rw [e0, List.length_append, h, s_cat]
    simp only [s_sum]
    cases s_c2 v <;> rfl
theorem s_rets_in {rt bc bs : Nat} : ∀ {Xs : List s_X} {outs : List (Option s_V × s_M)}, s_rets rt bc bs Xs = some outs → (∀ X ∈ Xs, ∃ out, s_retX rt bc bs X = some out ∧ out ∈ outs) ∧ ∀ out ∈ outs, ∃ X ∈ Xs, s_retX rt bc bs X = some out
  | [], outs, h => by cases h; exact ⟨fun X hX => (by cases hX), fun out ho => (by cases ho)⟩
  | X :: Xs, outs, h => by
    simp only [s_rets] at h
    split at h
    next => cases h
    next q e =>
      split at h
      next => cases h
      next qs e2 =>
        cases h
        obtain ⟨h1, h2⟩ := s_rets_in e2
        refine ⟨fun Y hY => ?_, fun out ho => ?_⟩
        · rcases List.mem_cons.mp hY with rfl | hY
          · exact ⟨q, e, List.mem_cons_self⟩
          · obtain ⟨out, a1, a2⟩ := h1 Y hY
            exact ⟨out, a1, List.mem_cons_of_mem _ a2⟩
        · rcases List.mem_cons.mp ho with rfl | ho
          · exact ⟨X, List.mem_cons_self, e⟩
          · obtain ⟨Y, a1, a2⟩ := h2 out ho
            exact ⟨Y, List.mem_cons_of_mem _ a1, a2⟩
/-- an end of the machine over bounds is one of the plain machine -/
theorem s_retX_ok {xs : Nat → Int} {cc : ByteArray} {o rt bc bs : Nat} {rtT : Option FieldType} {post : Option Value → g_H → Prop} (hrt : s_rtok rt rtT) {X : s_X} {out : Option s_V × s_M} (h : s_retX rt bc bs X = some out) (hX : ∀ r ∈ X.1, s_okI cc o r = true) :
    out.2 = X.2.2.2.2.2 ∧ ∀ (σ : Nat → Int) (ρ : Nat → Nat) (b : Nat), s_ok xs σ X.2.2.2.2.2 → post (out.1.map (s_cv σ ρ b)) (s_ch σ ρ b 0 out.2.2.2.2) → g_end cc rtT bc bs post (s_cX σ ρ b X) := by
  obtain ⟨code, L, st, cn, sn, M⟩ := X
  match code, h, hX with
  | r :: t, h, hX =>
    obtain ⟨pc, len, q, kd, a, k, v, ins⟩ := r
    have hr := hX _ List.mem_cons_self
    simp only [s_retX] at h
    obtain ⟨h1, h2⟩ := s_bif h
    clear h
    rw [Bool.and_eq_true] at h1
    have hb := Nat.le_of_ble_eq_true h1.1
    have hs := Nat.le_of_ble_eq_true h1.2
    split at h2
    next =>
      obtain ⟨h3, h4⟩ := s_bif h2
      cases h4
      rw [Bool.and_eq_true, Nat.beq_eq, Nat.beq_eq] at h3
      obtain ⟨rfl, rfl⟩ := h3
      obtain ⟨⟨n, hd, hlen, hne⟩, hQ, -⟩ := s_okI_eq hr (by omega)
      have hi : ins = .return_ := of_decide_eq_true hQ
      have hn := hne (by decide)
      rw [hn, hi] at hd
      exact ⟨rfl, fun σ ρ b hok hp => ⟨hb, hs, Or.inr (Or.inr (Or.inr ⟨hd, hrt, rfl, hp⟩))⟩⟩
    next u hXo =>
      cases e1 : Nat.beq q 40
      · rw [e1, cond_false] at h2
        cases e2 : (Nat.beq q 41 && (Nat.beq rt 3 && s_tk 1 u))
        · rw [e2, cond_false] at h2
          obtain ⟨h3, h4⟩ := s_bif h2
          cases h4
          simp only [Bool.and_eq_true, Nat.beq_eq] at h3
          obtain ⟨rfl, rfl, hv⟩ := h3
          obtain ⟨⟨n, hd, hlen, hne⟩, hQ, -⟩ := s_okI_eq hr (by omega)
          have hi : ins = .areturn := of_decide_eq_true hQ
          have hn := hne (by decide)
          rw [hn, hi] at hd
          obtain ⟨nm, hnm⟩ := hrt
          refine ⟨rfl, fun σ ρ b hok hp => ⟨hb, hs, Or.inr (Or.inr (Or.inl ⟨s_cv σ ρ b u, nm, hd, hnm, ?_, rfl, hp⟩))⟩⟩
          exact s_tk_4 hv
        · rw [e2, cond_true] at h2
          cases h2
          simp only [Bool.and_eq_true, Nat.beq_eq] at e2
          obtain ⟨rfl, rfl, hv⟩ := e2
          obtain ⟨⟨n, hd, hlen, hne⟩, hQ, -⟩ := s_okI_eq hr (by omega)
          have hi : ins = .lreturn := of_decide_eq_true hQ
          have hn := hne (by decide)
          rw [hn, hi] at hd
          refine ⟨rfl, fun σ ρ b hok hp => ?_⟩
          obtain ⟨x, ex⟩ := s_tk_1 (σ := σ) (ρ := ρ) (b := b) hv
          refine ⟨hb, hs, Or.inr (Or.inl ⟨x, hd, hrt, ?_, ?_⟩)⟩
          · show [s_cv σ ρ b u] = _
            rw [ex]
          · rw [← ex]; exact hp
      · rw [e1, cond_true] at h2
        rw [Nat.beq_eq] at e1
        subst e1
        obtain ⟨⟨n, hd, hlen, hne⟩, hQ, -⟩ := s_okI_eq hr (by omega)
        have hi : ins = .ireturn := of_decide_eq_true hQ
        have hn := hne (by decide)
        rw [hn, hi] at hd
        have fin : ∀ (x : Int32) (σ : Nat → Int) (ρ : Nat → Nat) (b : Nat), s_cv σ ρ b u = .int x → out = (some u, M) → post (out.1.map (s_cv σ ρ b)) (s_ch σ ρ b 0 out.2.2.2.2) → (∃ ty, rtT = some ty ∧ narrow ty (.int x) = .int x) → g_end cc rtT bc bs post (s_cX σ ρ b ((pc, len, 40, kd, a, k, v, ins) :: t, L, [u], cn, sn, M)) := by
          intro x σ ρ b ex ho hp hty
          obtain ⟨ty, t1, t2⟩ := hty
          subst ho
          refine ⟨hb, hs, Or.inl ⟨x, ty, hd, t1, t2, ?_, ?_⟩⟩
          · show [s_cv σ ρ b u] = _
            rw [ex]
          · rw [← ex]; exact hp
        unfold s_rti at h2
        split at h2
        next =>
          obtain ⟨h3, h4⟩ := s_bif h2
          cases h4
          refine ⟨rfl, fun σ ρ b hok hp => ?_⟩
          obtain ⟨x, ex⟩ := s_tk_0 (σ := σ) (ρ := ρ) (b := b) h3
          exact fin x σ ρ b ex rfl hp ⟨.int, hrt, rfl⟩
        next =>
          split at h2
          next iv e5 =>
            obtain ⟨h3, h4⟩ := s_bif h2
            cases h4
            simp only [Bool.and_eq_true, decide_eq_true_eq] at h3
            refine ⟨rfl, fun σ ρ b hok hp => ?_⟩
            obtain ⟨x, ex, x1, x2, -, -⟩ := s_iv_eq (ρ := ρ) (b := b) hok e5
            refine fin x σ ρ b ex rfl hp ⟨.boolean, hrt, ?_⟩
            have hx : x = 0 ∨ x = 1 := by
              have h0 : (0 : Int32).toInt = 0 := rfl
              have h1 : (1 : Int32).toInt = 1 := rfl
              rcases (show x.toInt = 0 ∨ x.toInt = 1 by omega) with h | h
              · exact Or.inl (Int32.toInt_inj.mp (h.trans h0.symm))
              · exact Or.inr (Int32.toInt_inj.mp (h.trans h1.symm))
            rcases hx with rfl | rfl <;> rfl
          next => cases h2
        next => cases h2
    next => cases h2
theorem s_body_ok {xs : Nat → Int} {codes : List (List s_I)} {ft : s_FT} {mi : List s_MI} {F d : Nat} {K : s_Call} (hft : s_ftok ft) (hdf : s_dfok ft) (hmi : s_miok mi) (hco : ∀ j q, mi[j]? = some q → s_pc (codes.getD j []) = 0 ∧ ∀ r ∈ codes.getD j [], s_okI (g_by j) q.2.2.2.2.2 r = true) (ih : s_CS xs mi K (g_run d)) :
    s_CS xs mi (s_body codes ft mi F K) (g_run (d + 1)) := by
  intro j as M outs h
  simp only [s_body] at h
  split at h
  next => cases h
  next Q e1 =>
    obtain ⟨h1, h2⟩ := s_bif h
    clear h
    split at h2
    next => cases h2
    next Xs e2 =>
      obtain ⟨m1, m2, m3, m4, m5⟩ := hmi j Q e1
      obtain ⟨c1, c2⟩ := hco j Q e1
      obtain ⟨r1, r2⟩ := s_rets_in h2
      have len : ∀ Y ∈ Xs, M.1.length ≤ Y.2.2.2.2.2.1.length ∧ M.2.2.2.length ≤ Y.2.2.2.2.2.2.2.2.length ∧ ∀ r ∈ Y.1, s_okI (g_by j) Q.2.2.2.2.2 r = true :=
        (s_loop_ok (P := fun _ => True) (xs := xs) (b := 0) (CALL := g_run d) (cc := g_by j) (fun _ _ => trivial) (fun h => absurd h (Nat.lt_irrefl 0)) hft hdf hmi ih c2 F _ Xs e2 c2).1
      refine ⟨fun out ho => ?_, fun σ ρ b hok q hq post hpost => ?_⟩
      · obtain ⟨X, hX, e3⟩ := r2 out ho
        have l1 := len X hX
        rw [(s_retX_ok (xs := xs) (post := fun _ _ => True) m3 e3 l1.2.2).1]
        exact ⟨l1.1, l1.2.1⟩
      · rw [e1] at hq
        cases hq
        refine ⟨m1, ?_, ?_⟩
        · rw [s_sl_eq, m2]
          exact Nat.le_of_ble_eq_true h1
        · rw [m5, m2, m4]
          intro P hpP hcl
          have key := (s_loop_ok (P := P) (xs := xs) (b := b) hcl (fun h => absurd h (Nat.lt_irrefl 0)) hft hdf hmi ih c2 F _ Xs e2 c2).2 σ ρ hok ?_
          · have e4 : s_cX σ ρ b (codes.getD j [], s_args 0 as, [], 0, 0, M) = (0, lv_args 0 (as.map (s_cv σ ρ b)), [], 0, 0, s_ch σ ρ b 0 M.2.2.2) := by
              unfold s_cX
              dsimp only
              rw [c1, s_args_eq]
              rfl
            rw [e4] at key
            exact key
          · intro Y hY σ' ρ' a1 a2 hok'
            obtain ⟨out, e5, ho⟩ := r1 Y hY
            obtain ⟨g1, g2⟩ := s_retX_ok (xs := xs) (post := post) m3 e5 (len Y hY).2.2
            exact hpP _ (g2 σ' ρ' b hok' (hpost out ho σ' ρ' a1 a2 (by rw [g1]; exact hok')))
/-- EVERY CALL of the machine over bounds is sound -/
theorem s_run_ok {xs : Nat → Int} {codes : List (List s_I)} {ft : s_FT} {mi : List s_MI} {F : Nat} {ov : Nat → List s_V → Option s_V} (hft : s_ftok ft) (hdf : s_dfok ft) (hmi : s_miok mi) (hco : ∀ j q, mi[j]? = some q → s_pc (codes.getD j []) = 0 ∧ ∀ r ∈ codes.getD j [], s_okI (g_by j) q.2.2.2.2.2 r = true)
    (hov : ∀ j as v, ov j as = some v → ∀ K M, s_body codes ft mi F K j as M = some [(some v, M)]) :
    ∀ d, s_CS xs mi (s_run codes ft mi F ov d) (g_run d) := by
  intro d
  induction d with
  | zero => intro j as M outs h; cases h
  | succ d ih =>
    intro j as M outs h
    simp only [s_run] at h
    split at h
    next v e =>
      cases h
      exact s_body_ok hft hdf hmi hco ih j as M _ (hov j as v e _ M)
    next => exact s_body_ok hft hdf hmi hco ih j as M outs h
end S27
end
section
-- straight pieces of code over values that are not known, instruction by instruction
def t_find : g_L → Nat → Option Value
  | [], _ => none
  | (j, v) :: t, i => bif Nat.beq j i then some v else t_find t i
theorem t_find_mem : ∀ {L : g_L} {i : Nat} {v : Value}, t_find L i = some v → (i, v) ∈ L
  | [], _, _, h => by cases h
  | (j, u) :: t, i, v, h => by
    rw [t_find] at h
    cases e : Nat.beq j i
    · rw [e, cond_false] at h
      exact List.mem_cons_of_mem _ (t_find_mem h)
    · rw [e, cond_true] at h
      cases h
      rw [Nat.beq_eq] at e
      subst e
      exact List.mem_cons_self
abbrev t_S : Type := g_L × List Value
def t_do (nL : Nat) (r : s_I) (L : g_L) (st : List Value) : Option t_S := match r.2.2.1 with
  | 0 => match g_con r.2.2.2.2.2.2.2 with
    | some (n, v) => bif Nat.beq n r.2.1 then some (L, v :: st) else none
    | none => none
  | 1 => match g_load r.2.2.2.2.2.2.2 with
    | some (i, n, p) => match t_find L i with
      | some v => bif Nat.beq n r.2.1 && p v then some (L, v :: st) else none
      | none => none
    | none => none
  | 2 => match g_stor r.2.2.2.2.2.2.2, st with
    | some (i, n, false, p), v :: rest => bif Nat.beq n r.2.1 && (p v && Nat.blt i nL) then some (g_st1 i v L, rest) else none
    | _, _ => none
  | 3 => match g_stor r.2.2.2.2.2.2.2, st with
    | some (i, n, true, p), v :: rest => bif Nat.beq n r.2.1 && (p v && Nat.blt (i + 1) nL) then some (g_st2 i v L, rest) else none
    | _, _ => none
  | 4 => match r.2.2.2.2.2.2.2 with
    | .iinc i n => match t_find L i with
      | some (.int x) => bif Nat.beq r.2.1 3 && Nat.blt i nL then some (g_st1 i (.int (x + Int32.ofInt n)) L, st) else none
      | _ => none
    | _ => none
  | 10 => bif Nat.beq r.2.1 3 && Nat.beq r.2.2.2.1 11 then (match r.2.2.2.2.2.2.2 with
    | .ldc2_w _ => some (L, .long (Int64.ofInt r.2.2.2.2.2.2.1) :: st)
    | _ => none) else none
  | 11 => match g_ib r.2.2.2.2.2.2.2, st with
    | some f, .int y :: .int x :: rest => bif Nat.beq r.2.1 1 then some (L, .int (f x y) :: rest) else none
    | _, _ => none
  | 13 => match g_iu r.2.2.2.2.2.2.2, st with
    | some f, .int x :: rest => bif Nat.beq r.2.1 1 then some (L, .int (f x) :: rest) else none
    | _, _ => none
  | 14 => match g_lb r.2.2.2.2.2.2.2, st with
    | some f, .long y :: .long x :: rest => bif Nat.beq r.2.1 1 then some (L, .long (f x y) :: rest) else none
    | _, _ => none
  | 16 => match r.2.2.2.2.2.2.2, st with
    | .lneg, .long x :: rest => bif Nat.beq r.2.1 1 then some (L, .long (-x) :: rest) else none
    | _, _ => none
  | 17 => match r.2.2.2.2.2.2.2, st with
    | .i2l, .int x :: rest => bif Nat.beq r.2.1 1 then some (L, .long x.toInt64 :: rest) else none
    | _, _ => none
  | 18 => match r.2.2.2.2.2.2.2, st with
    | .l2i, .long x :: rest => bif Nat.beq r.2.1 1 then some (L, .int x.toInt32 :: rest) else none
    | _, _ => none
  | 19 => match r.2.2.2.2.2.2.2, st with
    | .lcmp, .long y :: .long x :: rest => bif Nat.beq r.2.1 1 then some (L, .int (lg_cmp x y) :: rest) else none
    | _, _ => none
  | 20 => none
  | _ => none
def t_run (nL : Nat) : Nat → List s_I → g_L → List Value → Option (Nat × g_L × List Value)
  | 0, c, L, st => some (s_pc c, L, st)
  | n + 1, r :: t, L, st => bif Nat.beq (s_pc t) (r.1 + r.2.1) then (match t_do nL r L st with
    | some s => t_run nL n t s.1 s.2
    | none => none) else none
  | _ + 1, [], _, _ => none
section T30
variable {CALL : Nat → List Value → g_H → Nat → Nat → (Option Value → g_H → Prop) → Prop} {o nL : Nat} {ini : Bool} {bc bs : Nat} {cc : ByteArray} {P : g_S → Prop}
theorem t_ins (hcl : ∀ S, g_pre CALL o nL ini bc bs cc P S → P S) {r : s_I} (hI : s_okI cc o r = true) (hq : r.2.2.1 < 40) {L L' : g_L} {st st' : List Value} {w : g_W} (h : t_do nL r L st = some (L', st')) (k : P (r.1 + r.2.1, L', st', w)) : P (r.1, L, st, w) := by
  obtain ⟨pc, len, q, kd, a, b, v, ins⟩ := r
  obtain ⟨⟨n, hd, hlen, hne⟩, hQ, hlk⟩ := s_okI_eq hI (by have : q < 40 := hq; omega)
  subst hlen
  unfold t_do at h
  simp only at h
  apply hcl
  refine ⟨ins, len, hd, ?_⟩
  split at h
  · split at h
    next n' u e =>
      obtain ⟨h1, h2⟩ := s_bif h
      cases h2
      rw [Nat.beq_eq] at h1
      subst h1
      exact Or.inl (Or.inl ⟨_, e, k⟩)
    next => cases h
  · split at h
    next i n' p e =>
      split at h
      next u eu =>
        obtain ⟨h1, h2⟩ := s_bif h
        cases h2
        rw [Bool.and_eq_true, Nat.beq_eq] at h1
        obtain ⟨rfl, h3⟩ := h1
        exact Or.inl (Or.inr (Or.inl ⟨_, _, _, e, t_find_mem eu, h3, k⟩))
      next => cases h
    next => cases h
  · split at h
    next i n' p u rest e =>
      obtain ⟨h1, h2⟩ := s_bif h
      cases h2
      rw [Bool.and_eq_true, Bool.and_eq_true, Nat.beq_eq, Nat.blt_eq] at h1
      obtain ⟨rfl, h3, h4⟩ := h1
      exact Or.inl (Or.inr (Or.inr (Or.inl ⟨_, _, _, _, e, rfl, h3, h4, k⟩)))
    next => cases h
  · split at h
    next i n' p u rest e =>
      obtain ⟨h1, h2⟩ := s_bif h
      cases h2
      rw [Bool.and_eq_true, Bool.and_eq_true, Nat.beq_eq, Nat.blt_eq] at h1
      obtain ⟨rfl, h3, h4⟩ := h1
      exact Or.inl (Or.inr (Or.inr (Or.inr (Or.inl ⟨_, _, _, _, e, rfl, h3, h4, k⟩))))
    next => cases h
  · split at h
    next i n' =>
      split at h
      next x eu =>
        obtain ⟨h1, h2⟩ := s_bif h
        cases h2
        rw [Bool.and_eq_true, Nat.beq_eq, Nat.blt_eq] at h1
        obtain ⟨rfl, h4⟩ := h1
        exact Or.inl (Or.inr (Or.inr (Or.inr (Or.inr (Or.inl ⟨_, _, _, rfl, Or.inl rfl, t_find_mem eu, h4, k⟩)))))
      next => cases h
    next => cases h
  · obtain ⟨h1, h2⟩ := s_bif h
    rw [Bool.and_eq_true, Nat.beq_eq, Nat.beq_eq] at h1
    obtain ⟨rfl, rfl⟩ := h1
    split at h2
    next i =>
      cases h2
      obtain ⟨ps, hm⟩ := hlk (by decide) i rfl
      exact Or.inl (Or.inr (Or.inr (Or.inr (Or.inr (Or.inr (Or.inr (Or.inr (Or.inr (Or.inr (Or.inr (Or.inr ⟨_, _, _, _, _, _, rfl, rfl, Or.inl rfl, hm, k⟩)))))))))))
    next => cases h2
  · split at h
    next f y x rest e =>
      obtain ⟨h1, h2⟩ := s_bif h
      cases h2
      rw [Nat.beq_eq] at h1
      subst h1
      exact Or.inr (Or.inl (Or.inl ⟨_, _, _, _, e, rfl, rfl, k⟩))
    next => cases h
  · split at h
    next f x rest e =>
      obtain ⟨h1, h2⟩ := s_bif h
      cases h2
      rw [Nat.beq_eq] at h1
      subst h1
      exact Or.inr (Or.inl (Or.inr (Or.inr (Or.inl ⟨_, _, _, e, rfl, rfl, k⟩))))
    next => cases h
  · split at h
    next f y x rest e =>
      obtain ⟨h1, h2⟩ := s_bif h
      cases h2
      rw [Nat.beq_eq] at h1
      subst h1
      exact Or.inr (Or.inl (Or.inr (Or.inr (Or.inr (Or.inl ⟨_, _, _, _, e, rfl, rfl, k⟩)))))
    next => cases h
  · split at h
    next x rest =>
      obtain ⟨h1, h2⟩ := s_bif h
      cases h2
      rw [Nat.beq_eq] at h1
      subst h1
      exact Or.inr (Or.inl (Or.inr (Or.inr (Or.inr (Or.inr (Or.inr (Or.inl ⟨_, _, rfl, rfl, rfl, k⟩)))))))
    next => cases h
  · split at h
    next x rest =>
      obtain ⟨h1, h2⟩ := s_bif h
      cases h2
      rw [Nat.beq_eq] at h1
      subst h1
      exact Or.inr (Or.inl (Or.inr (Or.inr (Or.inr (Or.inr (Or.inr (Or.inr (Or.inr (Or.inl ⟨_, _, rfl, rfl, rfl, k⟩)))))))))
    next => cases h
  · split at h
    next x rest =>
      obtain ⟨h1, h2⟩ := s_bif h
      cases h2
      rw [Nat.beq_eq] at h1
      subst h1
      exact Or.inr (Or.inl (Or.inr (Or.inr (Or.inr (Or.inr (Or.inr (Or.inr (Or.inr (Or.inr (Or.inl ⟨_, _, rfl, rfl, rfl, k⟩))))))))))
    next => cases h
  · split at h
    next x y rest =>
      obtain ⟨h1, h2⟩ := s_bif h
      cases h2
      rw [Nat.beq_eq] at h1
      subst h1
      exact Or.inr (Or.inl (Or.inr (Or.inr (Or.inr (Or.inr (Or.inr (Or.inr (Or.inl ⟨_, _, _, rfl, rfl, rfl, k⟩))))))))
    next => cases h
  · cases h
  · cases h
theorem t_do_lt {r : s_I} {L : g_L} {st : List Value} {s : t_S} (h : t_do nL r L st = some s) : r.2.2.1 < 40 := by
  unfold t_do at h
  split at h <;> first | omega | cases h
theorem t_run_ok (hcl : ∀ S, g_pre CALL o nL ini bc bs cc P S → P S) {w : g_W} : ∀ (n : Nat) (c : List s_I) (L : g_L) (st : List Value) (pc' : Nat) (L' : g_L) (st' : List Value), (∀ r ∈ c, s_okI cc o r = true) → t_run nL n c L st = some (pc', L', st') → P (pc', L', st', w) → P (s_pc c, L, st, w)
  | 0, c, L, st, pc', L', st', hc, h, k => by
    cases h
    exact k
  | n + 1, [], L, st, pc', L', st', hc, h, k => by cases h
  | n + 1, r :: t, L, st, pc', L', st', hc, h, k => by
    rw [t_run] at h
    obtain ⟨h1, h2⟩ := s_bif h
    rw [Nat.beq_eq] at h1
    split at h2
    next s e =>
      obtain ⟨L1, st1⟩ := s
      have hk := t_run_ok hcl n t L1 st1 pc' L' st' (fun q hq => hc q (List.mem_cons_of_mem _ hq)) h2 k
      rw [h1] at hk
      exact t_ins hcl (hc r List.mem_cons_self) (t_do_lt e) e hk
    next => cases h2
theorem s_jump_mem : ∀ {c c' : List s_I} {pc : Nat}, s_jump c pc = some c' → s_pc c' = pc ∧ ∀ r ∈ c', r ∈ c
  | [], _, _, h => by cases h
  | r :: t, c', pc, h => by
    rw [s_jump] at h
    cases e : Nat.beq r.1 pc
    · rw [e, cond_false] at h
      obtain ⟨h1, h2⟩ := s_jump_mem h
      exact ⟨h1, fun q hq => List.mem_cons_of_mem _ (h2 q hq)⟩
    · rw [e, cond_true] at h
      cases h
      rw [Nat.beq_eq] at e
      exact ⟨e, fun q hq => hq⟩
/-- from a place of a table on -/
def t_at (full : List s_I) (nL pc n : Nat) (L : g_L) (st : List Value) : Option (Nat × g_L × List Value) := match s_jump full pc with
  | some c => t_run nL n c L st
  | none => none
theorem t_at_ok (hcl : ∀ S, g_pre CALL o nL ini bc bs cc P S → P S) {full : List s_I} (hfull : ∀ r ∈ full, s_okI cc o r = true) {pc n : Nat} {L L' : g_L} {st st' : List Value} {pc' : Nat} {w : g_W} (h : t_at full nL pc n L st = some (pc', L', st')) (k : P (pc', L', st', w)) : P (pc, L, st, w) := by
  unfold t_at at h
  split at h
  next c e =>
    obtain ⟨h1, h2⟩ := s_jump_mem e
    have h3 := t_run_ok hcl n c L st pc' L' st' (fun r hr => hfull r (h2 r hr)) h k
    rw [h1] at h3
    exact h3
  next => cases h
end T30
/-- a table that stops at places -/
def t_stop (ps : List Nat) (full : List s_I) : List s_I := full.map (fun r => bif ps.any (Nat.beq r.1) then (r.1, r.2.1, 50, r.2.2.2) else r)
theorem t_stop_ok {cc : ByteArray} {o : Nat} {ps : List Nat} {full : List s_I} (h : ∀ r ∈ full, s_okI cc o r = true) : ∀ r ∈ t_stop ps full, s_okI cc o r = true := by
  intro r hr
  obtain ⟨q, hq, rfl⟩ := List.mem_map.mp hr
  have h1 := h q hq
  cases ps.any (Nat.beq q.1)
  · exact h1
  · rw [cond_true]
    obtain ⟨pc, len, k, kd, a, b, v, ins⟩ := q
    unfold s_okI at h1 ⊢
    rw [Bool.and_eq_true] at h1 ⊢
    refine ⟨?_, ?_⟩
    · have h2 := h1.1
      simp only at h2 ⊢
      split at h2
      next i n e =>
        simp only [Bool.and_eq_true, Bool.or_eq_true] at h2 ⊢
        exact ⟨h2.1, h2.2.1, Or.inr (Or.inr rfl)⟩
      next => cases h2
    · rw [Bool.and_eq_true]
      refine ⟨rfl, ?_⟩
      simp only
      split
      · rfl
      · rw [Bool.or_eq_true]
        exact Or.inl rfl
end
section
-- what is known of methods and fields (made by wip/p24/gencode24.py)
set_option maxRecDepth 20000 in
def s_mi : List s_MI := [  (1, 0, true, 59, 2248, 11), (1, 0, true, 9, 122, 1), (1, 0, true, 2, 20, 9), (1, 0, true, 14, 957, 3), (1, 0, true, 4, 40, 10), (1, 0, true, 1, 80, 8), (1, 0, true, 1, 61, 7), (1, 0, true, 3, 42, 4),
  (1, 0, true, 4, 271, 2), (1, 0, true, 4, 48, 5), (1, 0, true, 1, 16, 6), (1, 0, true, 4, 280, 0), (5, 1, false, 0, 0, 11), (2, 2, false, 0, 0, 11), (1, 2, false, 0, 0, 11), (1, 2, false, 0, 0, 11),
  (6, 1, false, 0, 0, 1), (4, 0, false, 0, 0, 1), (3, 0, false, 0, 0, 11), (13, 1, false, 0, 0, 11), (2, 2, false, 0, 0, 1), (4, 3, false, 0, 0, 11), (2, 1, false, 0, 0, 1), (2, 1, false, 0, 0, 11),
  (4, 3, false, 0, 0, 14), (2, 1, false, 0, 0, 1), (4, 3, false, 0, 0, 14), (4, 1, false, 0, 0, 11), (2, 1, false, 0, 0, 1), (3, 0, false, 0, 0, 1), (7, 1, false, 0, 0, 11), (2, 0, false, 0, 0, 1),
  (2, 1, false, 0, 0, 14), (2, 1, false, 0, 0, 11), (3, 0, false, 0, 0, 1), (2, 1, false, 0, 0, 14), (3, 1, false, 0, 0, 11), (2, 1, false, 0, 0, 1), (3, 2, false, 0, 0, 1), (4, 1, false, 0, 0, 1),
  (2, 1, false, 0, 0, 1), (2, 1, false, 0, 0, 1), (3, 1, false, 0, 0, 1), (1, 1, false, 0, 0, 11), (1, 1, false, 0, 0, 1), (3, 1, false, 0, 0, 11), (3, 1, false, 0, 0, 11), (5, 1, false, 0, 0, 9),
  (4, 0, false, 0, 0, 11), (8, 2, false, 0, 0, 9), (2, 2, false, 0, 0, 9), (2, 3, false, 0, 0, 9), (2, 3, false, 0, 0, 11), (11, 0, false, 0, 0, 9), (2, 3, false, 0, 0, 9), (11, 3, false, 0, 0, 11),
  (2, 3, false, 0, 0, 14), (4, 2, false, 0, 0, 9), (12, 2, false, 0, 0, 9), (1, 0, false, 0, 0, 6), (3, 0, false, 0, 0, 6), (5, 1, false, 0, 0, 11), (5, 1, false, 0, 0, 11), (7, 1, false, 0, 0, 11),
  (2, 3, false, 0, 0, 0), (2, 3, false, 0, 0, 0), (6, 1, false, 0, 0, 11), (1, 2, false, 0, 0, 11), (3, 1, false, 0, 0, 11), (2, 2, false, 0, 0, 9), (4, 3, false, 0, 0, 11), (7, 0, false, 0, 0, 6),
  (12, 1, false, 0, 0, 11), (2, 1, false, 0, 0, 11), (6, 2, false, 0, 0, 3), (8, 2, false, 0, 0, 10), (7, 0, false, 0, 0, 10), (3, 0, false, 0, 0, 11), (4, 0, false, 0, 0, 10), (7, 1, false, 0, 0, 10),
  (3, 1, false, 0, 0, 1), (2, 2, false, 0, 0, 10), (4, 2, false, 0, 0, 10), (2, 2, false, 0, 0, 10), (3, 0, false, 0, 0, 3), (5, 1, false, 0, 0, 11), (3, 1, false, 0, 0, 11), (2, 2, false, 0, 0, 0),
  (4, 2, false, 0, 0, 3), (2, 1, false, 0, 0, 3), (7, 0, false, 0, 0, 3), (3, 2, false, 0, 0, 3), (3, 2, false, 0, 0, 3), (4, 0, false, 0, 0, 3), (5, 0, false, 0, 0, 3), (9, 2, false, 0, 0, 3),
  (10, 3, false, 0, 0, 3), (4, 2, false, 0, 0, 11), (3, 0, false, 0, 0, 3), (5, 2, false, 0, 0, 11), (3, 0, false, 0, 0, 3), (6, 1, false, 0, 0, 11), (3, 1, false, 0, 0, 3), (5, 2, false, 0, 0, 3),
  (7, 1, false, 0, 0, 3), (3, 1, false, 0, 0, 3), (4, 1, false, 0, 0, 11), (4, 1, false, 0, 0, 11), (4, 1, false, 0, 0, 3), (4, 1, false, 0, 0, 3), (2, 1, false, 0, 0, 11), (3, 1, false, 0, 0, 8),
  (2, 2, false, 0, 0, 11), (2, 2, false, 0, 0, 8), (3, 1, false, 0, 0, 11), (5, 1, false, 0, 0, 0), (4, 0, false, 0, 0, 0), (5, 0, false, 0, 0, 0), (2, 2, false, 0, 0, 8), (2, 1, false, 0, 0, 8),
  (2, 2, false, 0, 0, 8), (3, 2, false, 0, 0, 11), (7, 1, false, 0, 0, 11), (8, 1, false, 0, 0, 7), (3, 2, false, 0, 0, 7), (1, 2, false, 0, 0, 7), (17, 1, false, 0, 0, 7), (9, 3, false, 0, 0, 7),
  (5, 1, false, 0, 0, 7), (2, 1, false, 0, 0, 11), (17, 1, false, 0, 0, 7), (2, 1, false, 0, 0, 11), (2, 1, false, 0, 0, 11), (2, 2, false, 0, 0, 0), (6, 1, false, 0, 0, 7), (8, 0, false, 0, 0, 7),
  (1, 1, false, 0, 0, 15), (4, 2, false, 0, 0, 11), (1, 2, false, 0, 0, 11), (4, 0, false, 0, 0, 1), (2, 1, false, 0, 0, 11), (11, 1, false, 0, 0, 4), (2, 1, false, 0, 0, 1), (5, 2, false, 0, 0, 1),
  (7, 3, false, 0, 0, 1), (6, 1, false, 0, 0, 4), (2, 2, false, 0, 0, 4), (11, 2, false, 0, 0, 4), (2, 1, false, 0, 0, 4), (3, 1, false, 0, 0, 11), (10, 2, false, 0, 0, 4), (1, 1, false, 0, 0, 11),
  (4, 2, false, 0, 0, 4), (6, 0, false, 0, 0, 4), (3, 0, false, 0, 0, 4), (9, 1, false, 0, 0, 4), (4, 1, false, 0, 0, 4), (7, 2, false, 0, 0, 4), (6, 1, false, 0, 0, 4), (8, 2, false, 0, 0, 4),
  (7, 1, false, 0, 0, 4), (7, 1, false, 0, 0, 4), (9, 1, false, 0, 0, 11), (9, 1, false, 0, 0, 11), (7, 1, false, 0, 0, 11), (3, 3, false, 0, 0, 11), (9, 1, false, 0, 0, 11), (3, 1, false, 0, 0, 11),
  (7, 1, false, 0, 0, 0), (5, 0, false, 0, 0, 0), (3, 1, false, 0, 0, 11), (7, 1, false, 0, 0, 0), (2, 2, false, 0, 0, 8), (4, 2, false, 0, 0, 0), (2, 1, false, 0, 0, 11), (4, 1, false, 0, 0, 0),
  (6, 0, false, 0, 0, 0), (6, 2, false, 0, 0, 0), (7, 0, false, 0, 0, 0), (3, 1, false, 0, 0, 11), (3, 1, false, 0, 0, 2), (3, 1, false, 0, 0, 11), (3, 1, false, 0, 0, 2), (2, 1, false, 0, 0, 11),
  (2, 1, false, 0, 0, 2), (1, 1, false, 0, 0, 11), (4, 1, false, 0, 0, 2), (6, 1, false, 0, 0, 2), (1, 1, false, 0, 0, 11), (6, 1, false, 0, 0, 2), (1, 1, false, 0, 0, 11), (3, 1, false, 0, 0, 2),
  (5, 1, false, 0, 0, 11), (5, 1, false, 0, 0, 5), (2, 1, false, 0, 0, 11), (4, 1, false, 0, 0, 5), (6, 1, false, 0, 0, 5), (5, 2, false, 0, 0, 5), (7, 1, false, 0, 0, 5), (5, 1, false, 0, 0, 5),
  (3, 2, false, 10, 133, 11), (2, 0, false, 0, 0, 1), (3, 0, false, 0, 0, 11), (3, 2, false, 0, 0, 11), (2, 4, false, 0, 0, 11), (6, 1, false, 0, 0, 11), (5, 1, false, 0, 0, 1), (2, 1, false, 0, 0, 11),
  (3, 1, false, 0, 0, 11), (2, 3, false, 0, 0, 11), (2, 2, false, 0, 0, 6), (2, 3, false, 0, 0, 6), (1, 0, true, 45, 7306, 12), (5, 1, false, 0, 0, 12), (3, 2, false, 0, 0, 12), (1, 2, false, 0, 0, 12),
  (7, 1, false, 0, 0, 12), (2, 2, false, 0, 0, 12), (4, 1, false, 0, 0, 12), (9, 1, false, 0, 0, 12), (3, 1, false, 0, 0, 12), (4, 2, false, 0, 0, 12), (1, 1, false, 0, 0, 12), (5, 1, false, 0, 0, 12),
  (1, 1, false, 0, 0, 12), (3, 1, false, 0, 0, 12), (3, 1, false, 0, 0, 12), (7, 1, false, 0, 0, 12), (10, 0, false, 0, 0, 12), (10, 3, false, 0, 0, 12), (7, 0, false, 0, 0, 12), (3, 0, false, 0, 0, 12),
  (5, 1, false, 0, 0, 12), (5, 1, false, 0, 0, 12), (6, 1, false, 0, 0, 12), (3, 1, false, 0, 0, 12), (11, 2, false, 0, 0, 12), (6, 1, false, 0, 0, 12), (3, 1, false, 0, 0, 12), (2, 2, false, 0, 0, 12),
  (5, 2, false, 0, 0, 12), (2, 0, false, 0, 0, 12), (10, 2, false, 0, 0, 12), (2, 2, false, 0, 0, 12), (6, 2, false, 0, 0, 12), (10, 1, false, 0, 0, 12), (3, 0, false, 0, 0, 12), (4, 1, false, 0, 0, 12),
  (2, 2, false, 0, 0, 12), (9, 1, false, 0, 0, 12), (3, 1, false, 0, 0, 12), (2, 2, false, 0, 0, 12), (4, 1, false, 0, 0, 12), (3, 1, false, 0, 0, 12), (1, 1, false, 0, 0, 12), (2, 0, false, 0, 0, 12),
  (3, 2, false, 0, 0, 12), (10, 1, false, 0, 0, 12), (9, 1, false, 0, 0, 12), (10, 1, false, 0, 0, 12), (12, 2, false, 0, 0, 12), (6, 1, false, 0, 0, 12), (4, 2, false, 0, 0, 12), (16, 1, false, 0, 0, 12),
  (4, 2, false, 0, 0, 12), (5, 1, false, 0, 0, 12), (6, 1, false, 0, 0, 12), (4, 1, false, 0, 0, 12), (3, 2, false, 0, 0, 12), (7, 2, false, 0, 0, 12), (9, 1, false, 0, 0, 12), (9, 1, false, 0, 0, 12),
  (4, 1, false, 0, 0, 12), (3, 1, false, 0, 0, 12), (10, 1, false, 0, 0, 12), (5, 1, false, 0, 0, 12), (3, 0, false, 0, 0, 12), (6, 1, false, 0, 0, 12), (7, 1, false, 0, 0, 12), (6, 1, false, 0, 0, 12),
  (5, 2, false, 0, 0, 12), (3, 1, false, 0, 0, 12), (5, 0, false, 0, 0, 12), (3, 1, false, 0, 0, 12), (3, 1, false, 0, 0, 12), (2, 1, false, 0, 0, 12), (3, 1, false, 0, 0, 12), (4, 1, false, 0, 0, 12),
  (3, 1, false, 0, 0, 12), (3, 1, false, 0, 0, 12), (5, 1, false, 0, 0, 12), (8, 1, false, 0, 0, 12), (5, 2, false, 0, 0, 12), (3, 2, false, 0, 0, 12), (2, 0, false, 0, 0, 12), (3, 2, false, 0, 0, 12),
  (1, 1, false, 0, 0, 12), (9, 1, false, 0, 0, 12), (4, 1, false, 0, 0, 12), (6, 1, false, 0, 0, 12), (2, 1, false, 0, 0, 12), (2, 3, false, 0, 0, 12)]
def s_ft : s_FT := [  [(3, true), (3, true), (3, true), (3, true), (0, false), (0, false), (0, false), (2, false)],
  [(3, true), (3, true), (3, true), (3, true), (3, true), (3, true), (3, true), (3, true), (3, true), (0, false), (0, false)],
  [(3, true), (3, true), (3, true), (3, true), (0, false), (0, false), (0, false)],
  [(3, true), (3, true), (3, true), (3, true), (3, true), (3, true), (3, true), (3, true), (3, true), (3, true), (0, false), (1, false), (1, false), (2, false)],
  [(3, true), (3, true), (3, true), (0, false)],
  [(3, true), (3, true), (3, true), (3, true), (0, false)],
  [(3, true), (0, false)],
  [(0, false), (0, false), (3, true)],
  [(3, true), (0, false)],
  [(3, true), (3, true), (2, false)],
  [(3, true), (3, true), (3, true), (3, true), (0, false)],
  [(3, true), (3, true), (3, true), (3, true), (3, true), (3, true), (3, true), (3, true), (3, true), (3, true), (3, false), (3, false)],
  [(0, false), (3, true), (3, true), (3, true), (3, true), (3, true), (0, false), (3, true), (3, true), (3, true), (3, true), (0, false), (3, true), (3, true), (3, true), (0, false), (0, false), (3, true), (0, false), (3, true), (0, false), (0, false), (3, true), (3, true), (3, true), (1, false), (1, false), (3, true), (3, true), (0, false), (3, true), (3, true), (0, false), (3, true), (3, true), (3, true), (3, true), (3, true), (3, true), (0, false), (0, false), (0, false), (0, false), (3, true), (3, true), (3, true), (3, true), (3, true), (3, true), (3, true), (1, false), (1, false), (3, true), (0, false), (3, true), (0, false), (0, false), (3, true), (3, true), (0, false), (3, true), (0, false), (3, true), (3, true), (3, true), (3, true), (3, true), (3, true), (0, false)]]
end
