-- the steps of the machine over bounds are the plain machine's: array loads and stores, all steps together
section S24
variable {P : g_S → Prop} {xs : Nat → Int} {σ : Nat → Int} {ρ : Nat → Nat} {b : Nat} {M : s_M} {CALL : Nat → List Value → g_H → Nat → Nat → (Option Value → g_H → Prop) → Prop} {cc : ByteArray} {o nL : Nat} {ini : Bool} {bc bs : Nat}
variable {t : List s_I} {L : s_L} {st : List s_V} {cn sn pc : Nat} {ins : Instr} {X' : s_X} {full : List s_I} {r : s_I}
theorem s_al_i {a : Nat} (h : s_aln ins = a) (ha : a < 4) : (a = 0 ∧ ins = .iaload) ∨ (a = 1 ∧ ins = .laload) ∨ (a = 2 ∧ ins = .baload) ∨ (a = 3 ∧ ins = .aaload) := by
  subst h
  cases ins <;> first | exact Or.inl ⟨rfl, rfl⟩ | exact Or.inr (Or.inl ⟨rfl, rfl⟩) | exact Or.inr (Or.inr (Or.inl ⟨rfl, rfl⟩)) | exact Or.inr (Or.inr (Or.inr ⟨rfl, rfl⟩)) | exact absurd ha (show ¬ (9 < 4) by decide)
theorem s_as_i {a : Nat} (h : s_asn ins = a) (ha : a < 4) : (a = 0 ∧ ins = .iastore) ∨ (a = 1 ∧ ins = .lastore) ∨ (a = 2 ∧ ins = .bastore) ∨ (a = 3 ∧ ins = .aastore) := by
  subst h
  cases ins <;> first | exact Or.inl ⟨rfl, rfl⟩ | exact Or.inr (Or.inl ⟨rfl, rfl⟩) | exact Or.inr (Or.inr (Or.inl ⟨rfl, rfl⟩)) | exact Or.inr (Or.inr (Or.inr ⟨rfl, rfl⟩)) | exact absurd ha (show ¬ (9 < 4) by decide)
theorem s_ald_ok (hcl : ∀ S, g_pre CALL o nL ini bc bs cc P S → P S) {a : Nat} (hQ : s_aln ins = a) (ha : a < 4) (hd : decode cc pc = .ok (ins, 1)) {j u : s_V} {rest : List s_V} {c : s_C} (hcell : s_cell M u = some c) (h1 : c.1 = true) (h2 : s_akd a c.2.1 = true) {x : Int32} (hx : s_cv σ ρ b j = .int x) (hin : vp_in x c.2.2.1) (hv : s_tk (s_aty a) (s_lk c.2.2.2.2 x.toNatClampNeg c.2.2.2.1) = true)
    (k : P (pc + 1, s_cL σ ρ b L, s_cv σ ρ b (s_lk c.2.2.2.2 x.toNatClampNeg c.2.2.2.1) :: rest.map (s_cv σ ρ b), cn, sn, s_ch σ ρ b 0 M.2.2.2)) : P (pc, s_cL σ ρ b L, (j :: u :: rest).map (s_cv σ ρ b), cn, sn, s_ch σ ρ b 0 M.2.2.2) := by
  obtain ⟨c1, c2, -⟩ := s_cell_eq (σ := σ) (ρ := ρ) (b := b) hcell
  obtain ⟨y, tag, n, d, fs⟩ := c
  have h1' : y = true := h1
  subst h1'
  have est : (j :: u :: rest).map (s_cv σ ρ b) = Value.int x :: Value.ref (ρ u.2.toNat) :: rest.map (s_cv σ ρ b) := by rw [List.map_cons, List.map_cons, hx, c1]
  rcases s_al_i hQ ha with ⟨rfl, rfl⟩ | ⟨rfl, rfl⟩ | ⟨rfl, rfl⟩ | ⟨rfl, rfl⟩
  · have e : tag = 0 := Nat.beq_eq.mp h2
    subst e
    obtain ⟨z, ez⟩ := s_tk_0 (σ := σ) (ρ := ρ) (b := b) hv
    refine hcl _ ⟨_, _, hd, Or.inr (Or.inr (Or.inr (Or.inl (Or.inr (Or.inr (Or.inl ⟨_, _, n, _, x, rest.map (s_cv σ ρ b), rfl, rfl, est, c2, hin, ?_⟩))))))⟩
    show P (pc + 1, s_cL σ ρ b L, Value.int (g_i (s_cv σ ρ b (s_lk fs x.toNatClampNeg d))) :: rest.map (s_cv σ ρ b), cn, sn, s_ch σ ρ b 0 M.2.2.2)
    rw [ez] at k ⊢
    exact k
  · have e : tag = 1 := Nat.beq_eq.mp h2
    subst e
    obtain ⟨z, ez⟩ := s_tk_1 (σ := σ) (ρ := ρ) (b := b) hv
    refine hcl _ ⟨_, _, hd, Or.inr (Or.inr (Or.inr (Or.inl (Or.inr (Or.inr (Or.inr (Or.inl ⟨_, _, n, _, x, rest.map (s_cv σ ρ b), rfl, rfl, est, c2, hin, ?_⟩)))))))⟩
    show P (pc + 1, s_cL σ ρ b L, Value.long (g_l (s_cv σ ρ b (s_lk fs x.toNatClampNeg d))) :: rest.map (s_cv σ ρ b), cn, sn, s_ch σ ρ b 0 M.2.2.2)
    rw [ez] at k ⊢
    exact k
  · have e : tag = 2 ∨ tag = 3 := by
      have h2' : (Nat.beq tag 2 || Nat.beq tag 3) = true := h2
      rw [Bool.or_eq_true, Nat.beq_eq, Nat.beq_eq] at h2'
      exact h2'
    obtain ⟨z, ez⟩ := s_tk_0 (σ := σ) (ρ := ρ) (b := b) hv
    refine hcl _ ⟨_, _, hd, Or.inr (Or.inr (Or.inr (Or.inl (Or.inr (Or.inr (Or.inr (Or.inr (Or.inl ⟨_, _, tag, n, _, x, rest.map (s_cv σ ρ b), rfl, rfl, est, e, c2, hin, ?_⟩))))))))⟩
    show P (pc + 1, s_cL σ ρ b L, Value.int (g_i (s_cv σ ρ b (s_lk fs x.toNatClampNeg d))) :: rest.map (s_cv σ ρ b), cn, sn, s_ch σ ρ b 0 M.2.2.2)
    rw [ez] at k ⊢
    exact k
  · have e : tag = 4 := Nat.beq_eq.mp h2
    subst e
    refine hcl _ ⟨_, _, hd, Or.inr (Or.inr (Or.inr (Or.inl (Or.inr (Or.inr (Or.inr (Or.inr (Or.inr (Or.inl ⟨_, _, n, _, x, rest.map (s_cv σ ρ b), rfl, rfl, est, c2, hin, ?_⟩)))))))))⟩
    show P (pc + 1, s_cL σ ρ b L, va_rf (g_r (s_cv σ ρ b (s_lk fs x.toNatClampNeg d))) :: rest.map (s_cv σ ρ b), cn, sn, s_ch σ ρ b 0 M.2.2.2)
    rcases s_tk_4 (σ := σ) (ρ := ρ) (b := b) hv with ez | ⟨z, ez⟩ <;> rw [ez] at k ⊢ <;> exact k
theorem s_q32_ok (hcl : ∀ S, g_pre CALL o nL ini bc bs cc P S → P S) {scr : Nat} (hscr : s_scr scr cc b xs P) {a : Nat} (hok : s_ok xs σ M) (hQ : s_aln ins = a) (ha : a < 4) (hd : decode cc pc = .ok (ins, 1)) (hgo : s_pc t = pc + 1) (h : s_q32 scr t L st cn sn M a = some (.inr X')) (hP : s_hP P xs b σ ρ M X') : P (pc, s_cL σ ρ b L, st.map (s_cv σ ρ b), cn, sn, s_ch σ ρ b 0 M.2.2.2) := by
  unfold s_q32 at h
  split at h
  next j u rest =>
    cases e : (Nat.blt 0 scr && (Nat.beq u.1 7 && (Nat.beq a 0 && Nat.ble scr 6)))
    · rw [e, cond_false] at h
      split at h
      next c e1 =>
        obtain ⟨h1, h2⟩ := s_bif h
        clear h
        rw [Bool.and_eq_true] at h1
        cases e2 : (c.2.2.2.2.isEmpty && (s_inb M.1 c.2.2.1 j && s_tk (s_aty a) c.2.2.2.1))
        · rw [e2, cond_false] at h2
          split at h2
          next k e3 =>
            obtain ⟨h3, h4⟩ := s_bif h2
            cases h4
            obtain ⟨x, ex, hin, hk, -, -⟩ := s_idx_eq (ρ := ρ) (b := b) hok e3
            subst hk
            exact s_ald_ok hcl hQ ha hd e1 h1.1 h1.2 ex hin h3 (s_stay (st := s_lk c.2.2.2.2 x.toNatClampNeg c.2.2.2.1 :: rest) hok hgo hP)
          next => cases h2
          next => cases h2
        · rw [e2, cond_true] at h2
          cases h2
          simp only [Bool.and_eq_true, List.isEmpty_iff] at e2
          obtain ⟨x, ex, hin⟩ := s_inb_eq (ρ := ρ) (b := b) hok e2.2.1
          have el : s_lk c.2.2.2.2 x.toNatClampNeg c.2.2.2.1 = c.2.2.2.1 := by rw [e2.1]; rfl
          exact s_ald_ok hcl hQ ha hd e1 h1.1 h1.2 ex hin (by rw [el]; exact e2.2.2) (by rw [el]; exact s_stay (st := c.2.2.2.1 :: rest) hok hgo hP)
      next => cases h
    · rw [e, cond_true] at h
      simp only [Bool.and_eq_true, Nat.beq_eq, Nat.blt_eq] at e
      obtain ⟨es, eu, ea, e6⟩ := e
      have e6 := Nat.le_of_ble_eq_true e6
      have hi : ins = .iaload := by
        rcases s_al_i hQ ha with ⟨-, h⟩ | ⟨h, -⟩ | ⟨h, -⟩ | ⟨h, -⟩
        · exact h
        all_goals omega
      rw [hi] at hd
      split at h
      next k e3 =>
        cases h
        obtain ⟨x, ex, -, -, hk, hk5⟩ := s_idx_eq (ρ := ρ) (b := b) hok e3
        have k1 := s_stay (st := (2, (k : Int)) :: rest) hok hgo hP
        rw [List.map_cons, show s_cv σ ρ b (2, (k : Int)) = .int (Int32.ofInt (xs k)) by simp only [s_cv, Int.toNat_natCast]; rw [hok.2.2.2 k (by omega)]] at k1
        have := (hscr es).2 pc (s_cL σ ρ b L) (rest.map (s_cv σ ρ b)) _ x k hd hk5 hk k1
        rw [List.map_cons, List.map_cons, ex, s_cv7 eu]
        exact this
      next => cases h
      next => cases h
  next => cases h
theorem s_byte {x : Int32} (h1 : -128 ≤ x.toInt) (h2 : x.toInt ≤ 127) : vp_nar .byte x = x := by
  rw [vp_nar_byte, ← Int32.toInt_inj, Int8.toInt_toInt32, Int32.toInt_toInt8]
  rw [Int.bmod_def]
  split <;> omega
theorem s_q33_ok (hcl : ∀ S, g_pre CALL o nL ini bc bs cc P S → P S) {a : Nat} (hok : s_ok xs σ M) (hQ : s_asn ins = a) (ha : a < 4) (hd : decode cc pc = .ok (ins, 1)) (hgo : s_pc t = pc + 1) (h : s_q33 t L st cn sn M a = some (.inr X')) (hP : s_hP P xs b σ ρ M X') : P (pc, s_cL σ ρ b L, st.map (s_cv σ ρ b), cn, sn, s_ch σ ρ b 0 M.2.2.2) := by
  unfold s_q33 at h
  split at h
  next v j u rest =>
    split at h
    next c e1 =>
      obtain ⟨h1, h2⟩ := s_bif h
      clear h
      simp only [Bool.and_eq_true] at h1
      obtain ⟨hc1, hc2, hc3⟩ := h1
      split at h2
      next k e3 =>
        obtain ⟨x, ex, hin, hk, -, -⟩ := s_idx_eq (ρ := ρ) (b := b) hok e3
        have k1 := s_set_ok (ρ := ρ) (b := b) (P := P) hok hgo h2 hP
        obtain ⟨c1, c2, -⟩ := s_cell_eq (σ := σ) (ρ := ρ) (b := b) e1
        obtain ⟨y, tag, n, d, fs⟩ := c
        have h1' : y = true := hc1
        subst h1' hk
        have est : (v :: j :: u :: rest).map (s_cv σ ρ b) = s_cv σ ρ b v :: Value.int x :: Value.ref (ρ u.2.toNat) :: rest.map (s_cv σ ρ b) := by rw [List.map_cons, List.map_cons, List.map_cons, ex, c1]
        rcases s_as_i hQ ha with ⟨rfl, rfl⟩ | ⟨rfl, rfl⟩ | ⟨rfl, rfl⟩ | ⟨rfl, rfl⟩
        · have e : tag = 0 := Nat.beq_eq.mp hc2
          subst e
          obtain ⟨z, ez⟩ := s_tk_0 (σ := σ) (ρ := ρ) (b := b) (v := v) hc3
          rw [ez] at est k1
          exact hcl _ ⟨_, _, hd, Or.inr (Or.inr (Or.inr (Or.inl (Or.inr (Or.inr (Or.inr (Or.inr (Or.inr (Or.inr (Or.inl ⟨u.2.toNat, _, n, _, x, z, rest.map (s_cv σ ρ b), rfl, rfl, est, c2, hin, k1⟩))))))))))⟩
        · have e : tag = 1 := Nat.beq_eq.mp hc2
          subst e
          obtain ⟨z, ez⟩ := s_tk_1 (σ := σ) (ρ := ρ) (b := b) (v := v) hc3
          rw [ez] at est k1
          exact hcl _ ⟨_, _, hd, Or.inr (Or.inr (Or.inr (Or.inl (Or.inr (Or.inr (Or.inr (Or.inr (Or.inr (Or.inr (Or.inr (Or.inl ⟨u.2.toNat, _, n, _, x, z, rest.map (s_cv σ ρ b), rfl, rfl, est, c2, hin, k1⟩)))))))))))⟩
        · have e : tag = 2 ∨ tag = 3 := by
            have h2' : (Nat.beq tag 2 || Nat.beq tag 3) = true := hc2
            rw [Bool.or_eq_true, Nat.beq_eq, Nat.beq_eq] at h2'
            exact h2'
          rcases e with e | e
          · subst e
            have hz : ∃ z : Int32, s_cv σ ρ b v = .int z ∧ vp_nar .boolean z = z := by
              rcases s_bo_eq (σ := σ) (ρ := ρ) (b := b) (v := v) hc3 with ez | ez
              · exact ⟨0, ez, by decide⟩
              · exact ⟨1, ez, by decide⟩
            obtain ⟨z, ez, hz⟩ := hz
            rw [ez] at est k1
            refine hcl _ ⟨_, _, hd, Or.inr (Or.inr (Or.inr (Or.inl (Or.inr (Or.inr (Or.inr (Or.inr (Or.inr (Or.inr (Or.inr (Or.inr (Or.inl ⟨u.2.toNat, _, n, _, x, z, rest.map (s_cv σ ρ b), rfl, rfl, est, c2, hin, ?_⟩))))))))))))⟩
            rw [hz]
            exact k1
          · subst e
            have hz : ∃ z : Int32, s_cv σ ρ b v = .int z ∧ vp_nar .byte z = z := by
              have hc3' : s_stv M 3 v = true := hc3
              unfold s_stv at hc3'
              simp only at hc3'
              split at hc3'
              next iv e5 =>
                simp only [Bool.and_eq_true, decide_eq_true_eq] at hc3'
                obtain ⟨z, ez, z1, z2, -, -⟩ := s_iv_eq (ρ := ρ) (b := b) hok e5
                exact ⟨z, ez, s_byte (by omega) (by omega)⟩
              next => cases hc3'
            obtain ⟨z, ez, hz⟩ := hz
            rw [ez] at est k1
            refine hcl _ ⟨_, _, hd, Or.inr (Or.inr (Or.inr (Or.inl (Or.inr (Or.inr (Or.inr (Or.inr (Or.inr (Or.inr (Or.inr (Or.inr (Or.inr (Or.inl ⟨u.2.toNat, _, n, _, x, z, rest.map (s_cv σ ρ b), rfl, rfl, est, c2, hin, ?_⟩)))))))))))))⟩
            rw [hz]
            exact k1
        · have e : tag = 4 := Nat.beq_eq.mp hc2
          subst e
          have hc3' : s_stv M 4 v = true := hc3
          unfold s_stv at hc3'
          simp only at hc3'
          split at hc3'
          next c' e5 =>
            simp only [Bool.and_eq_true, Bool.not_eq_true', Nat.beq_eq] at hc3'
            obtain ⟨d1, d2, -⟩ := s_cell_eq (σ := σ) (ρ := ρ) (b := b) e5
            obtain ⟨y', tag', n', d', fs'⟩ := c'
            have q1 : y' = false := hc3'.1
            have q2 : tag' = 1 := hc3'.2
            subst q1 q2
            rw [d1] at est k1
            exact hcl _ ⟨_, _, hd, Or.inr (Or.inr (Or.inr (Or.inl (Or.inr (Or.inr (Or.inr (Or.inr (Or.inr (Or.inr (Or.inr (Or.inr (Or.inr (Or.inr (Or.inl ⟨u.2.toNat, _, n, _, x, _, _, n', _, rest.map (s_cv σ ρ b), rfl, rfl, est, c2, d2, hin, k1⟩))))))))))))))⟩
          next => cases hc3'
      next => cases h2
      next => cases h2
    next => cases h
  next => cases h
theorem s_q37_ok (hcl : ∀ S, g_pre CALL o nL ini bc bs cc P S → P S) {i kd a k : Nat} {v : Int} (hok : s_ok xs σ M) (hd : decode cc pc = .ok (.invokespecial i, 3)) (hgo : s_pc t = pc + 3) (hlk : s_lkd o i kd a k v) (h : s_q37 t L st cn sn M kd = some (.inr X')) (hP : s_hP P xs b σ ρ M X') : P (pc, s_cL σ ρ b L, st.map (s_cv σ ρ b), cn, sn, s_ch σ ρ b 0 M.2.2.2) := by
  obtain ⟨ps, hlk⟩ := hlk
  unfold s_q37 at h
  split at h
  next u rest =>
    split at h
    next c e1 =>
      obtain ⟨h1, h2⟩ := s_bif h
      clear h
      cases h2
      simp only [Bool.and_eq_true, Nat.beq_eq] at h1
      obtain ⟨rfl, h3⟩ := h1
      obtain ⟨c1, -, -⟩ := s_cell_eq (σ := σ) (ρ := ρ) (b := b) e1
      have k1 := s_stay (ρ := ρ) (b := b) (P := P) hok hgo hP
      refine hcl _ ⟨_, _, hd, Or.inr (Or.inr (Or.inr (Or.inr (Or.inr (Or.inr (Or.inr ⟨_, _, _, _, _, ρ u.2.toNat, rest.map (s_cv σ ρ b), rfl, rfl, hlk, ?_, ?_, k1⟩))))))⟩
      · show s_cv σ ρ b u :: _ = _
        rw [c1]
      · rw [s_sum_eq]
        exact Nat.le_of_ble_eq_true h3
    next => cases h
  next => cases h
/-- what the check of an instruction says -/
theorem s_okI_eq {pc len q kd a k : Nat} {v : Int} (hI : s_okI cc o (pc, len, q, kd, a, k, v, ins) = true) (hq : q < 44) : (∃ n, decode cc pc = .ok (ins, n) ∧ len = n ∧ (q ≠ 25 → n = s_len ins)) ∧ s_okQ pc q a k v ins = true ∧ (q < 40 → ∀ i, s_pool ins = some i → s_lkd o i kd a k v) := by
  unfold s_okI at hI
  rw [Bool.and_eq_true] at hI
  obtain ⟨h1, h2⟩ := hI
  rw [Bool.and_eq_true] at h2
  refine ⟨?_, h2.1, fun hq40 i hi => ?_⟩
  · split at h1
    next i n e =>
      simp only [Bool.and_eq_true, decide_eq_true_eq, Nat.beq_eq, Bool.or_eq_true] at h1
      obtain ⟨rfl, rfl, h3⟩ := h1
      refine ⟨_, e, rfl, fun hne => ?_⟩
      rcases h3 with h3 | h3 | h3
      · exact h3.symm
      · exact absurd h3 hne
      · have := Nat.le_of_ble_eq_true h3
        omega
    next => cases h1
  · have h3 := h2.2
    simp only [hi, Bool.or_eq_true] at h3
    rcases h3 with h3 | h3
    · have := Nat.le_of_ble_eq_true h3
      omega
    · obtain ⟨q', hm, e⟩ := List.any_eq_true.mp h3
      simp only [Bool.and_eq_true, Nat.beq_eq, decide_eq_true_eq] at e
      obtain ⟨w1, w2, w3, w4, w5, w6, w7⟩ := q'
      simp only at e
      obtain ⟨rfl, rfl, rfl, rfl, rfl, rfl⟩ := e
      exact ⟨w7, hm⟩
end S24
