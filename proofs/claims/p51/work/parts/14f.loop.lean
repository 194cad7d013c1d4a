-- loops and methods of the machine over bounds are the plain machine's
section S26
theorem s_tkn_eq : ∀ (n : Nat) (st acc as rest : List s_V), s_tkn n st acc = some (as, rest) → ∃ l, as = l.reverse ++ acc ∧ st = l ++ rest ∧ l.length = n
  | 0, st, acc, as, rest, h => by cases h; exact ⟨[], rfl, rfl, rfl⟩
  | n + 1, v :: st, acc, as, rest, h => by
    obtain ⟨l, h1, h2, h3⟩ := s_tkn_eq n st (v :: acc) as rest h
    exact ⟨v :: l, by rw [h1]; simp, by rw [h2]; rfl, by simp [h3]⟩
  | _ + 1, [], _, _, _, h => by cases h
theorem s_all_in {β γ : Type} {f : β → Option (List γ)} : ∀ {l : List β} {r : List γ}, s_all f l = some r → ∀ o ∈ l, ∃ a, f o = some a ∧ ∀ x ∈ a, x ∈ r
  | [], r, h, o, ho => by cases ho
  | u :: l, r, h, o, ho => by
    simp only [s_all] at h
    split at h
    next => cases h
    next a e =>
      split at h
      next => cases h
      next b e2 =>
        cases h
        rcases List.mem_cons.mp ho with rfl | ho
        · exact ⟨a, e, fun x hx => List.mem_append_left _ hx⟩
        · obtain ⟨a2, e3, e4⟩ := s_all_in e2 o ho
          exact ⟨a2, e3, fun x hx => List.mem_append_right _ (e4 x hx)⟩
theorem s_all_out {β γ : Type} {f : β → Option (List γ)} : ∀ {l : List β} {r : List γ}, s_all f l = some r → ∀ x ∈ r, ∃ o ∈ l, ∃ a, f o = some a ∧ x ∈ a
  | [], r, h, x, hx => by cases h; cases hx
  | u :: l, r, h, x, hx => by
    simp only [s_all] at h
    split at h
    next => cases h
    next a e =>
      split at h
      next => cases h
      next b e2 =>
        cases h
        rcases List.mem_append.mp hx with hx | hx
        · exact ⟨u, List.mem_cons_self, a, e, hx⟩
        · obtain ⟨o, ho, a2, e3, e4⟩ := s_all_out e2 x hx
          exact ⟨o, List.mem_cons_of_mem _ ho, a2, e3, e4⟩
def s_rtok (rt : Nat) (r : Option FieldType) : Prop := match rt with
  | 0 => r = none
  | 1 => r = some .int
  | 2 => r = some .boolean
  | 3 => r = some .long
  | 4 => ∃ n, r = some (.object n)
  | _ => True
/-- the table of methods is right -/
def s_miok (mi : List s_MI) : Prop := ∀ j q, mi[j]? = some q → j < g_mt.length ∧ g_nl j = q.1 ∧ s_rtok q.2.1 (g_rt j) ∧ ((g_y j).name == "<init>") = q.2.2.1 ∧ (g_me j).2.1 = q.2.2.2.2.2
/-- calls are sound -/
def s_CS (xs : Nat → Int) (mi : List s_MI) (K : s_Call) (CALL : Nat → List Value → g_H → Nat → Nat → (Option Value → g_H → Prop) → Prop) : Prop :=
  ∀ j as M outs, K j as M = some outs → (∀ out ∈ outs, M.1.length ≤ out.2.1.length ∧ M.2.2.2.length ≤ out.2.2.2.2.length) ∧
    ∀ σ ρ b, s_ok xs σ M → ∀ q, mi[j]? = some q → ∀ post : Option Value → g_H → Prop, (∀ out ∈ outs, ∀ (σ' : Nat → Int) (ρ' : Nat → Nat), (∀ i, i < M.1.length → σ' i = σ i) → (∀ i, i < M.2.2.2.length → ρ' i = ρ i) → s_ok xs σ' out.2 → post (out.1.map (s_cv σ' ρ' b)) (s_ch σ' ρ' b 0 out.2.2.2.2)) → CALL j (as.map (s_cv σ ρ b)) (s_ch σ ρ b 0 M.2.2.2) q.2.2.2.1 q.2.2.2.2.1 post
variable {P : g_S → Prop} {xs : Nat → Int} {b : Nat} {CALL : Nat → List Value → g_H → Nat → Nat → (Option Value → g_H → Prop) → Prop} {cc : ByteArray} {o nL : Nat} {ini : Bool} {bc bs : Nat} {K : s_Call} {full : List s_I} {ft : s_FT} {mi : List s_MI} {scr : Nat}
variable {M : s_M} {σ : Nat → Int} {ρ : Nat → Nat} {t : List s_I} {L : s_L} {st : List s_V} {cn sn : Nat}
theorem s_cut_ok {c : Nat × Nat × Int} {M1 M2 : s_M} (h : s_cut M c = some (M1, M2)) : (M1.1.length = M.1.length ∧ M1.2.2.2 = M.2.2.2) ∧ (M2.1.length = M.1.length ∧ M2.2.2.2 = M.2.2.2) ∧ (s_ok xs σ M → s_ok xs σ M1 ∨ s_ok xs σ M2) := by
  obtain ⟨E, R, B, H⟩ := M
  unfold s_cut at h
  split at h
  next k m =>
    simp only at h
    split at h
    next lo hi e =>
      simp only [s_fi_eq, s_eset_eq, Option.some.injEq, Prod.mk.injEq] at h
      obtain ⟨rfl, rfl⟩ := h
      refine ⟨⟨List.length_set, rfl⟩, ⟨List.length_set, rfl⟩, fun hok => ?_⟩
      have e' : E[k]? = some (lo, hi) := e
      have hk := hok.1 k (lo, hi) e'
      have hlk : k < E.length := (List.getElem?_eq_some_iff.mp e').1
      have key : ∀ r' : Int × Int, r'.1 ≤ σ k ∧ σ k ≤ r'.2 → s_ok xs σ (E.set k r', R, B, H) := by
        intro r' hr
        refine ⟨fun i r hi => ?_, hok.2⟩
        have hi' : (E.set k r')[i]? = some r := hi
        by_cases h1 : k = i
        · subst h1
          rw [List.getElem?_set_self hlk] at hi'
          cases hi'
          exact hr
        · rw [List.getElem?_set_ne h1] at hi'
          exact hok.1 i r hi'
      by_cases hm : σ k < m
      · exact Or.inl (key _ ⟨hk.1, by show σ k ≤ m - 1; omega⟩)
      · exact Or.inr (key _ ⟨by show m ≤ σ k; omega, hk.2⟩)
    next => cases h
  next w i j hw =>
    simp only [s_fn_eq] at h
    split at h
    next a b c d e1 e2 =>
      simp only [s_fi_eq, s_eset_eq, Option.some.injEq, Prod.mk.injEq] at h
      obtain ⟨rfl, rfl⟩ := h
      refine ⟨⟨by rw [List.length_set, List.length_set], rfl⟩, ⟨by rw [List.length_set, List.length_set], rfl⟩, fun hok => ?_⟩
      have e1' : E[i]? = some (a, b) := e1
      have e2' : E[Int.toNat j]? = some (c, d) := e2
      have hi1 := hok.1 i (a, b) e1'
      have hj1 := hok.1 (Int.toNat j) (c, d) e2'
      dsimp only at hi1 hj1
      have key : ∀ (E' : s_E) (k : Nat) (r' : Int × Int), (∀ i r, E'[i]? = some r → r.1 ≤ σ i ∧ σ i ≤ r.2) → r'.1 ≤ σ k ∧ σ k ≤ r'.2 → ∀ i r, (E'.set k r')[i]? = some r → r.1 ≤ σ i ∧ σ i ≤ r.2 := by
        intro E' k r' hE hr i r hi'
        by_cases h1 : k = i
        · subst h1
          have hlk : k < E'.length := by
            have := (List.getElem?_eq_some_iff.mp hi').1
            rw [List.length_set] at this
            exact this
          rw [List.getElem?_set_self hlk] at hi'
          cases hi'
          exact hr
        · rw [List.getElem?_set_ne h1] at hi'
          exact hE i r hi'
      by_cases hm : σ i < σ (Int.toNat j)
      · refine Or.inl ⟨key _ _ _ (key _ _ _ hok.1 ⟨hi1.1, s_min_le hi1.2 (by omega)⟩) ⟨s_max_le hj1.1 (by omega), hj1.2⟩, fun q hq => ?_, hok.2.2⟩
        rcases List.mem_cons.mp hq with rfl | hq
        · show σ i + 1 ≤ σ (Int.toNat j); omega
        · exact hok.2.1 q hq
      · refine Or.inr ⟨key _ _ _ (key _ _ _ hok.1 ⟨hj1.1, s_min_le hj1.2 (by omega)⟩) ⟨s_max_le hi1.1 (by omega), hi1.2⟩, fun q hq => ?_, hok.2.2⟩
        rcases List.mem_cons.mp hq with rfl | hq
        · show σ (Int.toNat j) + 0 ≤ σ i; omega
        · exact hok.2.1 q hq
    next => cases h
theorem s_cok_eq {q : s_MI} {r : s_I} {rest : List s_V} (h : s_cok bc bs cn sn q r t L rest M = true) : s_sum rest ≤ 8 ∧ cn + q.2.2.2.1 ≤ bc ∧ sn + q.2.2.2.2.1 ≤ bs ∧ s_go r t = true ∧ s_wL M.1.length M.2.2.2.length L = true ∧ rest.all (s_wV M.1.length M.2.2.2.length) = true := by
  simp only [s_cok, Bool.and_eq_true] at h
  exact ⟨Nat.le_of_ble_eq_true h.1, Nat.le_of_ble_eq_true h.2.1, Nat.le_of_ble_eq_true h.2.2.1, h.2.2.2.1, h.2.2.2.2.1, h.2.2.2.2.2⟩
/-- a call instruction -/
theorem s_doE_ok (hcl : ∀ S, g_pre CALL o nL ini bc bs cc P S → P S) (hmi : s_miok mi) {pc len q kd a k : Nat} {v : Int} {ins : Instr} (hq : q = 34 ∨ q = 35 ∨ q = 36) (hI : s_okI cc o (pc, len, q, kd, a, k, v, ins) = true) {j mc ms : Nat} {as rest : List s_V} (h : s_doE mi bc bs (pc, len, q, kd, a, k, v, ins) t L st cn sn M = some (j, as, rest, mc, ms)) :
    ∃ Q, mi[j]? = some Q ∧ mc = Q.2.2.2.1 ∧ ms = Q.2.2.2.2.1 ∧ s_pc t = pc + 3 ∧ s_wL M.1.length M.2.2.2.length L = true ∧ rest.all (s_wV M.1.length M.2.2.2.length) = true ∧
      ∀ (σ : Nat → Int) (ρ : Nat → Nat) (b : Nat), CALL j (as.map (s_cv σ ρ b)) (s_ch σ ρ b 0 M.2.2.2) mc ms (fun r h' => P (pc + 3, s_cL σ ρ b L, r.toList ++ rest.map (s_cv σ ρ b), cn + mc, sn + ms, h')) → P (pc, s_cL σ ρ b L, st.map (s_cv σ ρ b), cn, sn, s_ch σ ρ b 0 M.2.2.2) := by
  obtain ⟨⟨n, hd, hlen, hne⟩, hQ, hlk⟩ := s_okI_eq hI (by omega)
  replace hlk := hlk (by omega)
  have hn := hne (by omega)
  rw [hn] at hd hlen
  clear hne hI
  rcases hq with rfl | rfl | rfl
  · have h1 : s_q34 mi bc bs (pc, len, 34, kd, a, k, v, ins) t L st cn sn M kd a k = some (j, as, rest, mc, ms) := h
    have hQ' : ∃ i, ins = .invokevirtual i := by
      clear h h1 hd hlk hlen hn hcl
      revert hQ
      cases ins <;> intro hQ <;> first | exact ⟨_, rfl⟩ | cases hQ
    obtain ⟨i, rfl⟩ := hQ'
    obtain ⟨ps, hlk⟩ := hlk i rfl
    unfold s_q34 at h1
    split at h1
    next as' u rest' e1 =>
      split at h1
      next c Q e2 e3 =>
        obtain ⟨h2, h3⟩ := s_bif h1
        cases h3
        simp only [Bool.and_eq_true, Bool.or_eq_true, Nat.beq_eq, Bool.not_eq_true'] at h2
        obtain ⟨hkd, hc1, hc2, hck⟩ := h2
        obtain ⟨k1, k2, k3, k4, k5, k6⟩ := s_cok_eq hck
        obtain ⟨l, g1, g2, g3⟩ := s_tkn_eq _ _ _ _ _ e1
        rw [List.append_nil] at g1
        have hgo : s_pc t = pc + 3 := by have := s_go_eq k4; rw [this]; show pc + len = _; rw [hlen]; rfl
        refine ⟨Q, e3, rfl, rfl, hgo, k5, k6, fun σ ρ b hcall => ?_⟩
        obtain ⟨c1, c2, -⟩ := s_cell_eq (σ := σ) (ρ := ρ) (b := b) e2
        obtain ⟨y, tag, n', d, fs⟩ := c
        have hy : y = false := hc1
        have ht : tag = Q.2.2.2.2.2 := hc2
        subst hy
        have hm := hmi _ _ e3
        rw [ht, ← hm.2.2.2.2] at c2
        have est : st.map (s_cv σ ρ b) = (as'.map (s_cv σ ρ b)).reverse ++ Value.ref (ρ u.2.toNat) :: rest.map (s_cv σ ρ b) := by
          rw [g2, g1, List.map_reverse, List.reverse_reverse, List.map_append, List.map_cons, c1]
        rw [List.map_cons, c1] at hcall
        exact hcl _ ⟨_, _, hd, Or.inr (Or.inr (Or.inr (Or.inr (Or.inl ⟨i, kd, _, k, v, ps, as'.map (s_cv σ ρ b), ρ u.2.toNat, rest.map (s_cv σ ρ b), u.2.toNat, n', _, _, _, rfl, rfl, hkd, hlk, est, by rw [List.length_map, g1, List.length_reverse, g3], c2, by rw [s_sum_eq]; exact k1, k2, k3, hcall⟩))))⟩
      next => cases h1
    next => cases h1
  · have h1 : s_q35 mi bc bs (pc, len, 35, kd, a, k, v, ins) t L st cn sn M kd a k = some (j, as, rest, mc, ms) := h
    have hQ' : ∃ i, ins = .invokestatic i := by
      clear h h1 hd hlk hlen hn hcl
      revert hQ
      cases ins <;> intro hQ <;> first | exact ⟨_, rfl⟩ | cases hQ
    obtain ⟨i, rfl⟩ := hQ'
    obtain ⟨ps, hlk⟩ := hlk i rfl
    unfold s_q35 at h1
    split at h1
    next as' rest' e1 =>
      split at h1
      next Q e3 =>
        obtain ⟨h2, h3⟩ := s_bif h1
        cases h3
        simp only [Bool.and_eq_true, Bool.or_eq_true, Nat.beq_eq] at h2
        obtain ⟨hkd, hck⟩ := h2
        obtain ⟨k1, k2, k3, k4, k5, k6⟩ := s_cok_eq hck
        obtain ⟨l, g1, g2, g3⟩ := s_tkn_eq _ _ _ _ _ e1
        rw [List.append_nil] at g1
        have hgo : s_pc t = pc + 3 := by have := s_go_eq k4; rw [this]; show pc + len = _; rw [hlen]; rfl
        refine ⟨Q, e3, rfl, rfl, hgo, k5, k6, fun σ ρ b hcall => ?_⟩
        have est : st.map (s_cv σ ρ b) = (as.map (s_cv σ ρ b)).reverse ++ rest.map (s_cv σ ρ b) := by
          rw [g2, g1, List.map_reverse, List.reverse_reverse, List.map_append]
        exact hcl _ ⟨_, _, hd, Or.inr (Or.inr (Or.inr (Or.inr (Or.inr (Or.inl ⟨i, kd, _, k, v, ps, as.map (s_cv σ ρ b), rest.map (s_cv σ ρ b), _, _, rfl, rfl, hkd, hlk, est, by rw [List.length_map, g1, List.length_reverse, g3], by rw [s_sum_eq]; exact k1, k2, k3, hcall⟩)))))⟩
      next => cases h1
    next => cases h1
  · have h1 : s_q36 mi bc bs (pc, len, 36, kd, a, k, v, ins) t L st cn sn M kd a k = some (j, as, rest, mc, ms) := h
    have hQ' : ∃ i, ins = .invokespecial i := by
      clear h h1 hd hlk hlen hn hcl
      revert hQ
      cases ins <;> intro hQ <;> first | exact ⟨_, rfl⟩ | cases hQ
    obtain ⟨i, rfl⟩ := hQ'
    obtain ⟨ps, hlk⟩ := hlk i rfl
    unfold s_q36 at h1
    split at h1
    next as' u rest' e1 =>
      split at h1
      next c Q e2 e3 =>
        obtain ⟨h2, h3⟩ := s_bif h1
        cases h3
        simp only [Bool.and_eq_true, Bool.or_eq_true, Nat.beq_eq] at h2
        obtain ⟨hkd, hck⟩ := h2
        obtain ⟨k1, k2, k3, k4, k5, k6⟩ := s_cok_eq hck
        obtain ⟨l, g1, g2, g3⟩ := s_tkn_eq _ _ _ _ _ e1
        rw [List.append_nil] at g1
        have hgo : s_pc t = pc + 3 := by have := s_go_eq k4; rw [this]; show pc + len = _; rw [hlen]; rfl
        refine ⟨Q, e3, rfl, rfl, hgo, k5, k6, fun σ ρ b hcall => ?_⟩
        obtain ⟨c1, -, -⟩ := s_cell_eq (σ := σ) (ρ := ρ) (b := b) e2
        have est : st.map (s_cv σ ρ b) = (as'.map (s_cv σ ρ b)).reverse ++ Value.ref (ρ u.2.toNat) :: rest.map (s_cv σ ρ b) := by
          rw [g2, g1, List.map_reverse, List.reverse_reverse, List.map_append, List.map_cons, c1]
        rw [List.map_cons, c1] at hcall
        exact hcl _ ⟨_, _, hd, Or.inr (Or.inr (Or.inr (Or.inr (Or.inr (Or.inr (Or.inl ⟨i, kd, _, k, v, ps, as'.map (s_cv σ ρ b), ρ u.2.toNat, rest.map (s_cv σ ρ b), _, _, rfl, rfl, hkd, hlk, est, by rw [List.length_map, g1, List.length_reverse, g3], by rw [s_sum_eq]; exact k1, k2, k3, hcall⟩))))))⟩
      next => cases h1
    next => cases h1
theorem s_jump_in {pc : Nat} : ∀ {l t' : List s_I}, s_jump l pc = some t' → ∀ r ∈ t', r ∈ l
  | [], _, h => by cases h
  | r :: t, t', h => by
    simp only [s_jump] at h
    cases e : Nat.beq r.1 pc
    · rw [e, cond_false] at h; exact fun x hx => List.mem_cons_of_mem _ (s_jump_in h x hx)
    · rw [e, cond_true] at h
      cases h
      exact fun x hx => hx
/-- A LOOP: where all its ends hold, so does its start -/
theorem s_loop_ok (hcl : ∀ S, g_pre CALL o nL ini bc bs cc P S → P S) (hscr : s_scr scr cc b xs P) (hft : s_ftok ft) (hdf : s_dfok ft) (hmi : s_miok mi) (hCS : s_CS xs mi K CALL) (hfull : ∀ r ∈ full, s_okI cc o r = true) :
    ∀ (n : Nat) (X : s_X) (outs : List s_X), s_loop K full ft mi scr o nL ini bc bs n X = some outs → (∀ r ∈ X.1, s_okI cc o r = true) →
      (∀ Y ∈ outs, X.2.2.2.2.2.1.length ≤ Y.2.2.2.2.2.1.length ∧ X.2.2.2.2.2.2.2.2.length ≤ Y.2.2.2.2.2.2.2.2.length ∧ ∀ r ∈ Y.1, s_okI cc o r = true) ∧
      ∀ (σ : Nat → Int) (ρ : Nat → Nat), s_ok xs σ X.2.2.2.2.2 → (∀ Y ∈ outs, ∀ (σ' : Nat → Int) (ρ' : Nat → Nat), (∀ i, i < X.2.2.2.2.2.1.length → σ' i = σ i) → (∀ i, i < X.2.2.2.2.2.2.2.2.length → ρ' i = ρ i) → s_ok xs σ' Y.2.2.2.2.2 → P (s_cX σ' ρ' b Y)) → P (s_cX σ ρ b X) := by
  intro n
  induction n with
  | zero => intro X outs h; cases h
  | succ n ih =>
    intro X outs h hX
    obtain ⟨code, L, st, cn, sn, M⟩ := X
    match code, h, hX with
    | r :: t, h, hX =>
      obtain ⟨pc, len, q, kd, a, k, v, ins⟩ := r
      have hr := hX _ List.mem_cons_self
      have ht : ∀ r ∈ t, s_okI cc o r = true := fun r hr => hX r (List.mem_cons_of_mem _ hr)
      simp only [s_loop] at h
      by_cases hq : 40 ≤ q
      · have : Nat.ble 40 q = true := Nat.ble_eq.mpr hq
        rw [this, cond_true] at h
        cases h
        refine ⟨fun Y hY => ?_, fun σ ρ hok hY => ?_⟩
        · rw [List.mem_singleton] at hY
          subst hY
          exact ⟨Nat.le_refl _, Nat.le_refl _, hX⟩
        · exact hY _ (List.mem_singleton.mpr rfl) σ ρ (fun _ _ => rfl) (fun _ _ => rfl) hok
      · have : Nat.ble 40 q = false := by
          cases e : Nat.ble 40 q
          · rfl
          · exact absurd (Nat.le_of_ble_eq_true e) hq
        rw [this, cond_false] at h
        cases e : (Nat.ble 34 q && Nat.blt q 37)
        · rw [e, cond_false] at h
          unfold s_res at h
          split at h
          next => cases h
          next X1 e1 =>
            have hgd := s_gd_do X1 e1
            have hX1 : ∀ r ∈ X1.1, s_okI cc o r = true := by
              rcases hgd.2.2 with e2 | ⟨pc', e2⟩
              · rw [e2]; exact ht
              · exact fun r hr => hfull r (s_jump_in e2 r hr)
            obtain ⟨i1, i2⟩ := ih X1 outs h hX1
            refine ⟨fun Y hY => ⟨Nat.le_trans hgd.1 (i1 Y hY).1, Nat.le_trans hgd.2.1 (i1 Y hY).2.1, (i1 Y hY).2.2⟩, fun σ ρ hok hY => ?_⟩
            refine s_do_ok hcl hscr hft hdf hok (by omega) hr e1 ?_
            intro σ' ρ' a1 a2 hok'
            exact i2 σ' ρ' hok' (fun Y hYm σ2 ρ2 b1 b2 hok2 => hY Y hYm σ2 ρ2 (fun i hi => (b1 i (Nat.lt_of_lt_of_le hi hgd.1)).trans (a1 i hi)) (fun i hi => (b2 i (Nat.lt_of_lt_of_le hi hgd.2.1)).trans (a2 i hi)) hok2)
          next c e1 =>
            split at h
            next => cases h
            next MM e2 =>
              obtain ⟨M1, M2⟩ := MM
              obtain ⟨⟨l1, l2⟩, ⟨l3, l4⟩, hc⟩ := s_cut_ok (xs := xs) (σ := fun _ => 0) e2
              unfold s_two at h
              split at h
              next => cases h
              next x1 e3 =>
                split at h
                next => cases h
                next x2 e4 =>
                  cases h
                  obtain ⟨i1, i2⟩ := ih _ _ e3 hX
                  obtain ⟨i3, i4⟩ := ih _ _ e4 hX
                  refine ⟨fun Y hY => ?_, fun σ ρ hok hY => ?_⟩
                  · rcases List.mem_append.mp hY with hY | hY
                    · have := i1 Y hY
                      exact ⟨by rw [← l1]; exact this.1, by rw [← l2]; exact this.2.1, this.2.2⟩
                    · have := i3 Y hY
                      exact ⟨by rw [← l3]; exact this.1, by rw [← l4]; exact this.2.1, this.2.2⟩
                  · obtain ⟨-, -, hc2⟩ := s_cut_ok (xs := xs) (σ := σ) e2
                    rcases hc2 hok with hok1 | hok2
                    · have := i2 σ ρ hok1 (fun Y hYm σ2 ρ2 b1 b2 hk => hY Y (List.mem_append_left _ hYm) σ2 ρ2 (fun i hi => b1 i (by rw [← l1] at hi; exact hi)) (fun i hi => b2 i (by rw [← l2] at hi; exact hi)) hk)
                      unfold s_cX at this ⊢
                      dsimp only at this ⊢
                      rw [l2] at this
                      exact this
                    · have := i4 σ ρ hok2 (fun Y hYm σ2 ρ2 b1 b2 hk => hY Y (List.mem_append_right _ hYm) σ2 ρ2 (fun i hi => b1 i (by rw [← l3] at hi; exact hi)) (fun i hi => b2 i (by rw [← l4] at hi; exact hi)) hk)
                      unfold s_cX at this ⊢
                      dsimp only at this ⊢
                      rw [l4] at this
                      exact this
        · rw [e, cond_true] at h
          rw [Bool.and_eq_true, Nat.blt_eq] at e
          have h34 := Nat.le_of_ble_eq_true e.1
          unfold s_cal at h
          split at h
          next => cases h
          next j as rest mc ms e1 =>
            split at h
            next => cases h
            next outs0 e2 =>
              obtain ⟨Q, m1, m2, m3, hgo, w1, w2, hcall⟩ := s_doE_ok hcl hmi (by omega) hr e1
              obtain ⟨c1, c2⟩ := hCS j as M outs0 e2
              refine ⟨fun Y hY => ?_, fun σ ρ hok hY => ?_⟩
              · obtain ⟨out, ho, x, e3, e4⟩ := s_all_out h Y hY
                simp only [s_fn_eq] at e3
                obtain ⟨i1, -⟩ := ih _ _ e3 ht
                have := i1 Y e4
                exact ⟨Nat.le_trans (c1 out ho).1 this.1, Nat.le_trans (c1 out ho).2 this.2.1, this.2.2⟩
              · refine hcall σ ρ b ?_
                rw [m2, m3]
                refine c2 σ ρ b hok Q m1 _ ?_
                intro out ho σ' ρ' a1 a2 hok'
                obtain ⟨x, e3, e4⟩ := s_all_in h out ho
                simp only [s_fn_eq] at e3
                obtain ⟨-, i2⟩ := ih _ _ e3 ht
                have key := i2 σ' ρ' hok' (fun Y hYm σ2 ρ2 b1 b2 hk => hY Y (e4 Y hYm) σ2 ρ2 (fun i hi => (b1 i (Nat.lt_of_lt_of_le hi (c1 out ho).1)).trans (a1 i hi)) (fun i hi => (b2 i (Nat.lt_of_lt_of_le hi (c1 out ho).2)).trans (a2 i hi)) hk)
                have e5 : s_cX σ' ρ' b (t, L, out.1.toList ++ rest, cn + mc, sn + ms, out.2) = (pc + 3, s_cL σ ρ b L, (out.1.map (s_cv σ' ρ' b)).toList ++ rest.map (s_cv σ ρ b), cn + Q.2.2.2.1, sn + Q.2.2.2.2.1, s_ch σ' ρ' b 0 out.2.2.2.2) := by
                  unfold s_cX
                  dsimp only
                  rw [hgo, s_wL_ag w1 a1 a2, List.map_append, s_wS_ag w2 a1 a2, m2, m3]
                  congr 3
                  cases out.1 <;> rfl
                rw [e5] at key
                exact key
end S26
