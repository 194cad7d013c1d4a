-- the steps of the machine over bounds are the plain machine's: branches, fields, arrays
section S23
variable {P : g_S → Prop} {xs : Nat → Int} {σ : Nat → Int} {ρ : Nat → Nat} {b : Nat} {M : s_M} {CALL : Nat → List Value → g_H → Nat → Nat → (Option Value → g_H → Prop) → Prop} {cc : ByteArray} {o nL : Nat} {ini : Bool} {bc bs : Nat}
variable {t : List s_I} {L : s_L} {st : List s_V} {cn sn pc : Nat} {ins : Instr} {X' : s_X} {full : List s_I} {r : s_I}
theorem s_jump_eq {pc : Nat} : ∀ {l t' : List s_I}, s_jump l pc = some t' → s_pc t' = pc
  | [], _, h => by cases h
  | r :: t, t', h => by
    simp only [s_jump] at h
    cases e : Nat.beq r.1 pc
    · rw [e, cond_false] at h; exact s_jump_eq h
    · rw [e, cond_true] at h
      cases h
      exact Nat.beq_eq.mp e
theorem s_jmp_ok {pc' : Nat} (hok : s_ok xs σ M) (h : s_jmp full pc' L st cn sn M = some (.inr X')) (hP : s_hP P xs b σ ρ M X') : P (pc', s_cL σ ρ b L, st.map (s_cv σ ρ b), cn, sn, s_ch σ ρ b 0 M.2.2.2) := by
  unfold s_jmp at h
  split at h
  next t' e =>
    cases h
    exact s_stay hok (s_jump_eq e) hP
  next => cases h
theorem s_go_eq (h : s_go r t = true) : s_pc t = r.1 + r.2.1 := by
  unfold s_go at h
  split at h
  · cases h
  · exact Nat.beq_eq.mp h
theorem s_nxt_ok (hok : s_ok xs σ M) (h : s_nxt r t L st cn sn M = some (.inr X')) (hP : s_hP P xs b σ ρ M X') : P (r.1 + r.2.1, s_cL σ ρ b L, st.map (s_cv σ ρ b), cn, sn, s_ch σ ρ b 0 M.2.2.2) := by
  unfold s_nxt at h
  obtain ⟨h1, h⟩ := s_bif h
  cases h
  exact s_stay hok (s_go_eq h1) hP
theorem s_q20_ok (hcl : ∀ S, g_pre CALL o nL ini bc bs cc P S → P S) {a : Nat} {off : Int} (hok : s_ok xs σ M) (hd : decode cc r.1 = .ok (.goto off, 3)) (hQ : (r.1 : Int) + off = (a : Int)) (h : s_jmp full a L st cn sn M = some (.inr X')) (hP : s_hP P xs b σ ρ M X') : P (r.1, s_cL σ ρ b L, st.map (s_cv σ ρ b), cn, sn, s_ch σ ρ b 0 M.2.2.2) :=
  hcl _ ⟨_, _, hd, Or.inr (Or.inr (Or.inl (Or.inl ⟨_, _, rfl, rfl, hQ, s_jmp_ok hok h hP⟩)))⟩
theorem s_q21_ok (hcl : ∀ S, g_pre CALL o nL ini bc bs cc P S → P S) {a : Nat} {cd : ClassFile.Cond} {off : Int} (hok : s_ok xs σ M) (hd : decode cc r.1 = .ok (.ifCond cd off, 3)) (hl : r.2.1 = 3) (hQ : (r.1 : Int) + off = (a : Int)) (h : s_q21 full r t L st cn sn M a (s_cdn cd) = some (.inr X')) (hP : s_hP P xs b σ ρ M X') : P (r.1, s_cL σ ρ b L, st.map (s_cv σ ρ b), cn, sn, s_ch σ ρ b 0 M.2.2.2) := by
  unfold s_q21 at h
  split at h
  next x rest =>
    split at h
    next ix e1 =>
      obtain ⟨x', ex, hx1, hx2, hx3, hx4⟩ := s_iv_eq (ρ := ρ) (b := b) hok e1
      have c1 := s_cond_eq (y := 0) (ib := (0, 0)) (c := (0, 0)) hok.2.1 cd ⟨hx1, hx2⟩ ⟨by decide, by decide⟩ (s_isv2 hx4 hx3) (fun h => by cases h)
      have fin : P (if g_c1 x' cd = true then a else r.1 + 3, s_cL σ ρ b L, rest.map (s_cv σ ρ b), cn, sn, s_ch σ ρ b 0 M.2.2.2) → P (r.1, s_cL σ ρ b L, (x :: rest).map (s_cv σ ρ b), cn, sn, s_ch σ ρ b 0 M.2.2.2) := by
        intro k1
        refine hcl _ ⟨_, _, hd, Or.inr (Or.inr (Or.inl (Or.inr (Or.inl ⟨_, _, _, _, _, rfl, rfl, hQ, ?_, k1⟩))))⟩
        show s_cv σ ρ b x :: _ = _
        rw [ex]
      split at h
      next e3 =>
        have h1 := c1.1 e3
        refine fin ?_
        rw [s_c1_c2, if_pos h1]
        exact s_jmp_ok hok h hP
      next e3 =>
        have h1 := c1.2 e3
        refine fin ?_
        rw [s_c1_c2, if_neg (by rw [h1]; exact Bool.false_ne_true), ← hl]
        exact s_nxt_ok hok h hP
      next => exact (s_o_inl h).elim
    next => cases h
  next => cases h
theorem s_q22_ok (hcl : ∀ S, g_pre CALL o nL ini bc bs cc P S → P S) {a : Nat} {cd : ClassFile.Cond} {off : Int} (hok : s_ok xs σ M) (hd : decode cc r.1 = .ok (.if_icmp cd off, 3)) (hl : r.2.1 = 3) (hQ : (r.1 : Int) + off = (a : Int)) (h : s_q22 full r t L st cn sn M a (s_cdn cd) = some (.inr X')) (hP : s_hP P xs b σ ρ M X') : P (r.1, s_cL σ ρ b L, st.map (s_cv σ ρ b), cn, sn, s_ch σ ρ b 0 M.2.2.2) := by
  unfold s_q22 at h
  split at h
  next y x rest =>
    split at h
    next ix iy e1 e2 =>
      obtain ⟨x', ex, hx1, hx2, hx3, hx4⟩ := s_iv_eq (ρ := ρ) (b := b) hok e1
      obtain ⟨y', ey, hy1, hy2, hy3, hy4⟩ := s_iv_eq (ρ := ρ) (b := b) hok e2
      have c1 := s_cond_eq hok.2.1 cd ⟨hx1, hx2⟩ ⟨hy1, hy2⟩ (s_isv2 hx4 hx3) (s_isv2 hy4 hy3)
      have fin : P (if g_c2 x' y' cd = true then a else r.1 + 3, s_cL σ ρ b L, rest.map (s_cv σ ρ b), cn, sn, s_ch σ ρ b 0 M.2.2.2) → P (r.1, s_cL σ ρ b L, (y :: x :: rest).map (s_cv σ ρ b), cn, sn, s_ch σ ρ b 0 M.2.2.2) := by
        intro k1
        refine hcl _ ⟨_, _, hd, Or.inr (Or.inr (Or.inl (Or.inr (Or.inr (Or.inl ⟨_, _, _, _, _, _, rfl, rfl, hQ, ?_, k1⟩)))))⟩
        show s_cv σ ρ b y :: s_cv σ ρ b x :: _ = _
        rw [ex, ey]
      split at h
      next e3 =>
        have h1 := c1.1 e3
        refine fin ?_
        rw [if_pos h1]
        exact s_jmp_ok hok h hP
      next e3 =>
        have h1 := c1.2 e3
        refine fin ?_
        rw [if_neg (by rw [h1]; exact Bool.false_ne_true), ← hl]
        exact s_nxt_ok hok h hP
      next => exact (s_o_inl h).elim
    next => cases h
  next => cases h
theorem s_nul {x : s_V} (h : (Nat.beq x.1 4 || Nat.beq x.1 5) = true) : (x.1 = 4 ∧ s_cv σ ρ b x = .null) ∨ (x.1 = 5 ∧ ∃ a, s_cv σ ρ b x = .ref a) := by
  obtain ⟨t, n⟩ := x
  rw [Bool.or_eq_true, Nat.beq_eq, Nat.beq_eq] at h
  rcases h with h | h
  · have h' : t = 4 := h
    subst h'; exact Or.inl ⟨rfl, rfl⟩
  · have h' : t = 5 := h
    subst h'; exact Or.inr ⟨rfl, _, rfl⟩
theorem s_q23_ok (hcl : ∀ S, g_pre CALL o nL ini bc bs cc P S → P S) {a : Nat} {off : Int} (hok : s_ok xs σ M) (hd : decode cc r.1 = .ok (.ifnull off, 3)) (hl : r.2.1 = 3) (hQ : (r.1 : Int) + off = (a : Int)) (h : s_q23 full r t L st cn sn M a false = some (.inr X')) (hP : s_hP P xs b σ ρ M X') : P (r.1, s_cL σ ρ b L, st.map (s_cv σ ρ b), cn, sn, s_ch σ ρ b 0 M.2.2.2) := by
  unfold s_q23 at h
  split at h
  next x rest =>
    obtain ⟨h1, h⟩ := s_bif h
    rcases s_nul (σ := σ) (ρ := ρ) (b := b) h1 with ⟨e1, e2⟩ | ⟨e1, y, e2⟩
    · rw [e1] at h
      have k1 := s_jmp_ok (ρ := ρ) (b := b) (P := P) hok (show s_jmp full a L rest cn sn M = some (.inr X') from h) hP
      refine hcl _ ⟨_, _, hd, Or.inr (Or.inr (Or.inl (Or.inr (Or.inr (Or.inr (Or.inl ⟨_, _, 0, _, rfl, rfl, hQ, Or.inl ⟨?_, k1⟩⟩))))))⟩
      show s_cv σ ρ b x :: _ = _
      rw [e2]
    · rw [e1] at h
      have k1 := s_nxt_ok (ρ := ρ) (b := b) (P := P) hok (show s_nxt r t L rest cn sn M = some (.inr X') from h) hP
      rw [hl] at k1
      refine hcl _ ⟨_, _, hd, Or.inr (Or.inr (Or.inl (Or.inr (Or.inr (Or.inr (Or.inl ⟨_, _, y, _, rfl, rfl, hQ, Or.inr ⟨?_, k1⟩⟩))))))⟩
      show s_cv σ ρ b x :: _ = _
      rw [e2]
  next => cases h
theorem s_q24_ok (hcl : ∀ S, g_pre CALL o nL ini bc bs cc P S → P S) {a : Nat} {off : Int} (hok : s_ok xs σ M) (hd : decode cc r.1 = .ok (.ifnonnull off, 3)) (hl : r.2.1 = 3) (hQ : (r.1 : Int) + off = (a : Int)) (h : s_q23 full r t L st cn sn M a true = some (.inr X')) (hP : s_hP P xs b σ ρ M X') : P (r.1, s_cL σ ρ b L, st.map (s_cv σ ρ b), cn, sn, s_ch σ ρ b 0 M.2.2.2) := by
  unfold s_q23 at h
  split at h
  next x rest =>
    obtain ⟨h1, h⟩ := s_bif h
    rcases s_nul (σ := σ) (ρ := ρ) (b := b) h1 with ⟨e1, e2⟩ | ⟨e1, y, e2⟩
    · rw [e1] at h
      have k1 := s_nxt_ok (ρ := ρ) (b := b) (P := P) hok (show s_nxt r t L rest cn sn M = some (.inr X') from h) hP
      rw [hl] at k1
      refine hcl _ ⟨_, _, hd, Or.inr (Or.inr (Or.inl (Or.inr (Or.inr (Or.inr (Or.inr (Or.inl ⟨_, _, 0, _, rfl, rfl, hQ, Or.inl ⟨?_, k1⟩⟩)))))))⟩
      show s_cv σ ρ b x :: _ = _
      rw [e2]
    · rw [e1] at h
      have k1 := s_jmp_ok (ρ := ρ) (b := b) (P := P) hok (show s_jmp full a L rest cn sn M = some (.inr X') from h) hP
      refine hcl _ ⟨_, _, hd, Or.inr (Or.inr (Or.inl (Or.inr (Or.inr (Or.inr (Or.inr (Or.inl ⟨_, _, y, _, rfl, rfl, hQ, Or.inr ⟨?_, k1⟩⟩)))))))⟩
      show s_cv σ ρ b x :: _ = _
      rw [e2]
  next => cases h
theorem s_tgt_eq {pc n : Nat} {off : Int} (h : s_tgt pc off = some n) : (pc : Int) + off = (n : Int) := by
  unfold s_tgt at h
  split at h
  next m e => cases h; exact e
  next => cases h
theorem s_q25_ok (hcl : ∀ S, g_pre CALL o nL ini bc bs cc P S → P S) {len : Nat} (hok : s_ok xs σ M) (hd : decode cc r.1 = .ok (r.2.2.2.2.2.2.2, len)) (h : s_q25 full r L st cn sn M = some (.inr X')) (hP : s_hP P xs b σ ρ M X') : P (r.1, s_cL σ ρ b L, st.map (s_cv σ ρ b), cn, sn, s_ch σ ρ b 0 M.2.2.2) := by
  unfold s_q25 at h
  split at h
  next dflt lo hi offs ei =>
    rw [ei] at hd
    split at h
    next x rest =>
      split at h
      next ix e1 =>
        obtain ⟨x', ex, hx1, hx2, hx3, hx4⟩ := s_iv_eq (ρ := ρ) (b := b) hok e1
        have est : (x :: rest).map (s_cv σ ρ b) = Value.int x' :: rest.map (s_cv σ ρ b) := by rw [List.map_cons, ex]
        cases e2 : (decide (ix.2 < lo) || decide (hi < ix.1))
        · rw [e2, cond_false] at h
          simp only [Bool.or_eq_false_iff, decide_eq_false_iff_not] at e2
          by_cases e3 : ix.1 = ix.2
          · simp only [e3, decide_true, cond_true] at h
            split at h
            next off e4 =>
              split at h
              next n e5 =>
                have hxx : x'.toInt = ix.2 := by omega
                exact hcl _ ⟨_, _, hd, Or.inr (Or.inr (Or.inl (Or.inr (Or.inr (Or.inr (Or.inr (Or.inr ⟨_, _, _, _, _, _, _, _, rfl, est, s_tgt_eq e5, Or.inl ⟨by omega, by omega, by rw [hxx]; exact e4⟩, s_jmp_ok hok h hP⟩)))))))⟩
              next => cases h
            next => cases h
          · simp only [e3, decide_false, cond_false] at h
            obtain ⟨h1, h⟩ := s_bif h
            cases h
        · rw [e2, cond_true] at h
          simp only [Bool.or_eq_true, decide_eq_true_eq] at e2
          split at h
          next n e5 =>
            exact hcl _ ⟨_, _, hd, Or.inr (Or.inr (Or.inl (Or.inr (Or.inr (Or.inr (Or.inr (Or.inr ⟨_, _, _, _, _, _, _, _, rfl, est, s_tgt_eq e5, Or.inr ⟨by omega, rfl⟩, s_jmp_ok hok h hP⟩)))))))⟩
          next => cases h
      next => cases h
    next => cases h
  next => cases h
/-- a cell by its place -/
theorem s_cell_eq {v : s_V} {c : s_C} (h : s_cell M v = some c) : s_cv σ ρ b v = .ref (ρ v.2.toNat) ∧ g_get (s_ch σ ρ b 0 M.2.2.2) v.2.toNat = some (ρ v.2.toNat, s_cc σ ρ b c) ∧ M.2.2.2[v.2.toNat]? = some c := by
  obtain ⟨t, n⟩ := v
  unfold s_cell at h
  obtain ⟨h1, h⟩ := s_bif h
  have h1' : t = 5 := Nat.beq_eq.mp h1
  subst h1'
  refine ⟨rfl, ?_, h⟩
  rw [s_ch_get, h, Nat.zero_add]
  rfl
theorem s_idx_eq (hok : s_ok xs σ M) {n k : Nat} {j : s_V} (h : s_idx M.1 n j = some (.inr k)) : ∃ x : Int32, s_cv σ ρ b j = .int x ∧ vp_in x n ∧ x.toNatClampNeg = k ∧ x.toInt = k ∧ k < n := by
  unfold s_idx at h
  split at h
  next ix e =>
    obtain ⟨h1, h⟩ := s_bif h
    simp only [Bool.and_eq_true, decide_eq_true_eq] at h1
    obtain ⟨x, ex, hx1, hx2, -, -⟩ := s_iv_eq (ρ := ρ) (b := b) hok e
    by_cases e2 : ix.1 = ix.2
    · simp only [e2, decide_true, cond_true, s_fn_eq] at h
      cases h
      have hx : x.toInt = ix.2 := by omega
      exact ⟨x, ex, vp_in_iff.mpr ⟨by omega, by omega⟩, by show x.toInt.toNat = _; rw [hx], by omega, by omega⟩
    · simp only [e2, decide_false, cond_false] at h
      obtain ⟨h2, h⟩ := s_bif h
      cases h
  next => cases h
theorem s_inb_eq (hok : s_ok xs σ M) {n : Nat} {j : s_V} (h : s_inb M.1 n j = true) : ∃ x : Int32, s_cv σ ρ b j = .int x ∧ vp_in x n := by
  unfold s_inb at h
  split at h
  next ix e =>
    simp only [Bool.and_eq_true, decide_eq_true_eq] at h
    obtain ⟨x, ex, hx1, hx2, -, -⟩ := s_iv_eq (ρ := ρ) (b := b) hok e
    exact ⟨x, ex, vp_in_iff.mpr ⟨by omega, by omega⟩⟩
  next => cases h
theorem s_q26_ok (hcl : ∀ S, g_pre CALL o nL ini bc bs cc P S → P S) {i kd a k : Nat} {v : Int} (hok : s_ok xs σ M) (hd : decode cc pc = .ok (.getfield i, 3)) (hgo : s_pc t = pc + 3) (hlk : s_lkd o i kd a k v) (h : s_q26 t L st cn sn M kd a k = some (.inr X')) (hP : s_hP P xs b σ ρ M X') : P (pc, s_cL σ ρ b L, st.map (s_cv σ ρ b), cn, sn, s_ch σ ρ b 0 M.2.2.2) := by
  obtain ⟨ps, hlk⟩ := hlk
  unfold s_q26 at h
  split at h
  next u rest =>
    split at h
    next c e1 =>
      obtain ⟨h1, h⟩ := s_bif h
      cases h
      simp only [Bool.and_eq_true, Nat.beq_eq, Nat.blt_eq, Bool.not_eq_true'] at h1
      obtain ⟨hk, hf, ha, hn⟩ := h1
      obtain ⟨c1, c2, -⟩ := s_cell_eq (σ := σ) (ρ := ρ) (b := b) e1
      have hk' : kd = 0 ∨ kd = 1 := by have := Nat.le_of_ble_eq_true hk; omega
      have k1 := s_stay (st := s_lk c.2.2.2.2 k c.2.2.2.1 :: rest) hok hgo hP
      obtain ⟨x, y, n, d, fs⟩ := c
      have hf' : x = false := hf
      have ha' : y = a := ha
      subst hf' ha'
      refine hcl _ ⟨_, _, hd, Or.inr (Or.inr (Or.inr (Or.inl (Or.inl ⟨_, _, _, _, _, _, _, _, _, _, rest.map (s_cv σ ρ b), rfl, rfl, hk', hlk, ?_, c2, hn, k1⟩))))⟩
      show s_cv σ ρ b u :: _ = _
      rw [c1]
    next => cases h
  next => cases h
/-- what a store does to the heap -/
theorem s_set_ok {p k : Nat} {c : s_C} {v : s_V} {pc' : Nat} (hok : s_ok xs σ M) (hgo : s_pc t = pc') (h : s_set t L st cn sn M p c k v = some (.inr X')) (hP : s_hP P xs b σ ρ M X') : P (pc', s_cL σ ρ b L, st.map (s_cv σ ρ b), cn, sn, (s_ch σ ρ b 0 M.2.2.2).set p (ρ p, c.1, c.2.1, c.2.2.1, g_up (s_cc σ ρ b c).2.2.2 k (s_cv σ ρ b v))) := by
  obtain ⟨E, R, B, H⟩ := M
  obtain ⟨x, y, n, d, fs⟩ := c
  unfold s_set at h
  simp only [s_putK_eq, s_hset_eq] at h
  cases h
  subst hgo
  have key := hP σ ρ (fun _ _ => rfl) (fun _ _ => rfl) hok
  have e1 : s_cc σ ρ b (x, y, n, d, s_put fs k v) = (x, y, n, g_up (s_cc σ ρ b (x, y, n, d, fs)).2.2.2 k (s_cv σ ρ b v)) := by
    unfold s_cc
    congr 3
    funext j
    show s_cv σ ρ b (s_lk (s_put fs k v) j d) = if j = k then s_cv σ ρ b v else s_cv σ ρ b (s_lk fs j d)
    rw [s_lk_put]
    by_cases hj : j = k
    · rw [if_pos hj, if_pos hj]
    · rw [if_neg hj, if_neg hj]
  have e2 : (s_ch σ ρ b 0 H).set p (ρ p, x, y, n, g_up (s_cc σ ρ b (x, y, n, d, fs)).2.2.2 k (s_cv σ ρ b v)) = s_ch σ ρ b 0 (H.set p (x, y, n, d, s_put fs k v)) := by
    rw [← s_ch_set, Nat.zero_add, e1]
  rw [show (s_ch σ ρ b 0 (E, R, B, H).2.2.2) = s_ch σ ρ b 0 H from rfl, e2]
  exact key
theorem s_bo_eq {v : s_V} (h : s_bo v = true) : s_cv σ ρ b v = .int 0 ∨ s_cv σ ρ b v = .int 1 := by
  obtain ⟨t, n⟩ := v
  simp only [s_bo, Bool.and_eq_true, Nat.beq_eq, Bool.or_eq_true, decide_eq_true_eq] at h
  obtain ⟨rfl, rfl | rfl⟩ := h
  · exact Or.inl rfl
  · exact Or.inr rfl
/-- field types told by numbers -/
def s_ftok (ft : s_FT) : Prop := ∀ a k ty fin, (ft.getD a []).getD k (9, true) = (ty, fin) → ty < 4 → (g_fd a k).2 = fin ∧ ∃ T, parseFieldDescriptor (g_fd a k).1 = some T ∧ (match ty with | 0 => T = .int | 1 => T = .long | 2 => T = .boolean | _ => (∃ n, T = .object n) ∨ ∃ u, T = .array u)
theorem s_q27_ok (hcl : ∀ S, g_pre CALL o nL ini bc bs cc P S → P S) {ft : s_FT} (hft : s_ftok ft) {i kd a k : Nat} {v0 : Int} (hok : s_ok xs σ M) (hd : decode cc pc = .ok (.putfield i, 3)) (hgo : s_pc t = pc + 3) (hlk : s_lkd o i kd a k v0) (h : s_q27 ft o ini t L st cn sn M kd a k = some (.inr X')) (hP : s_hP P xs b σ ρ M X') : P (pc, s_cL σ ρ b L, st.map (s_cv σ ρ b), cn, sn, s_ch σ ρ b 0 M.2.2.2) := by
  obtain ⟨ps, hlk⟩ := hlk
  unfold s_q27 at h
  split at h
  next v u rest =>
    split at h
    next c e1 =>
      split at h
      next ty fin e2 =>
        obtain ⟨h1, h⟩ := s_bif h
        simp only [Bool.and_eq_true, Nat.beq_eq, Nat.blt_eq, Bool.not_eq_true', Bool.or_eq_true] at h1
        obtain ⟨hk, hf, ha, hn, hv, hty, hfin⟩ := h1
        obtain ⟨c1, c2, -⟩ := s_cell_eq (σ := σ) (ρ := ρ) (b := b) e1
        obtain ⟨f1, T, f2, f3⟩ := hft a k ty fin e2 hty
        have hk' : kd = 0 ∨ kd = 1 := by have := Nat.le_of_ble_eq_true hk; omega
        have k1 := s_set_ok (ρ := ρ) (b := b) (P := P) hok hgo h hP
        obtain ⟨x, y, n, d, fs⟩ := c
        have hf' : x = false := hf
        have ha' : y = a := ha
        subst hf' ha'
        have hnv : narrow T (s_cv σ ρ b v) = s_cv σ ρ b v ∧ fits T (s_cv σ ρ b v) = true := by
          match ty, hty, hv, f3 with
          | 0, _, hv, f3 =>
            obtain ⟨z, ez⟩ := s_tk_0 (σ := σ) (ρ := ρ) (b := b) hv
            subst f3; rw [ez]; exact ⟨rfl, rfl⟩
          | 1, _, hv, f3 =>
            obtain ⟨z, ez⟩ := s_tk_1 (σ := σ) (ρ := ρ) (b := b) hv
            subst f3; rw [ez]; exact ⟨rfl, rfl⟩
          | 2, _, hv, f3 =>
            subst f3
            rcases s_bo_eq (σ := σ) (ρ := ρ) (b := b) hv with ez | ez <;> rw [ez] <;> exact ⟨rfl, rfl⟩
          | 3, _, hv, f3 =>
            rcases s_tk_2 (σ := σ) (ρ := ρ) (b := b) hv with ez | ⟨z, ez⟩ <;> rw [ez] <;> rcases f3 with ⟨w, rfl⟩ | ⟨w, rfl⟩ <;> exact ⟨rfl, rfl⟩
        refine hcl _ ⟨_, _, hd, Or.inr (Or.inr (Or.inr (Or.inl (Or.inr (Or.inl ⟨_, _, _, _, _, _, u.2.toNat, ρ u.2.toNat, n, (s_cc σ ρ b (false, y, n, d, fs)).2.2.2, _, T, rest.map (s_cv σ ρ b), rfl, rfl, hk', hlk, ?_, c2, hn, ?_, f2, hnv.1, hnv.2, k1⟩)))))⟩
        · show s_cv σ ρ b v :: s_cv σ ρ b u :: _ = _
          rw [c1]
        · rcases hfin with hfin | ⟨h1, h2, h3⟩
          · exact Or.inl (f1.trans hfin)
          · exact Or.inr ⟨h1, h2, h3⟩
    next => cases h
  next => cases h
/-- the script: scr - 1 ints at the cell b (none where scr is 0) -/
def s_scr (scr : Nat) (cc : ByteArray) (b : Nat) (xs : Nat → Int) (P : g_S → Prop) : Prop := 0 < scr → (∀ pc L rest w, decode cc pc = .ok (.arraylength, 1) → P (pc + 1, L, .int (Int32.ofInt ((scr - 1 : Nat) : Int)) :: rest, w) → P (pc, L, .ref b :: rest, w)) ∧ ∀ pc L rest w (j : Int32) (k : Nat), decode cc pc = .ok (.iaload, 1) → k < scr - 1 → j.toInt = k → P (pc + 1, L, .int (Int32.ofInt (xs k)) :: rest, w) → P (pc, L, .int j :: .ref b :: rest, w)
theorem s_cv7 {v : s_V} (h : v.1 = 7) : s_cv σ ρ b v = .ref b := by
  obtain ⟨t, n⟩ := v
  have h' : t = 7 := h
  subst h'; rfl
theorem s_q28_ok (hcl : ∀ S, g_pre CALL o nL ini bc bs cc P S → P S) {scr : Nat} (hscr : s_scr scr cc b xs P) (hok : s_ok xs σ M) (hd : decode cc pc = .ok (.arraylength, 1)) (hgo : s_pc t = pc + 1) (h : s_q28 scr t L st cn sn M = some (.inr X')) (hP : s_hP P xs b σ ρ M X') : P (pc, s_cL σ ρ b L, st.map (s_cv σ ρ b), cn, sn, s_ch σ ρ b 0 M.2.2.2) := by
  unfold s_q28 at h
  split at h
  next u rest =>
    cases e : (Nat.blt 0 scr && Nat.beq u.1 7)
    · rw [e, cond_false] at h
      split at h
      next c e1 =>
        obtain ⟨h1, h⟩ := s_bif h
        cases h
        simp only [Bool.and_eq_true, Nat.blt_eq] at h1
        obtain ⟨c1, c2, -⟩ := s_cell_eq (σ := σ) (ρ := ρ) (b := b) e1
        have k1 := s_stay (st := (0, (c.2.2.1 : Int)) :: rest) hok hgo hP
        obtain ⟨x, y, n, d, fs⟩ := c
        have hf' : x = true := h1.1
        subst hf'
        refine hcl _ ⟨_, _, hd, Or.inr (Or.inr (Or.inr (Or.inl (Or.inr (Or.inr (Or.inr (Or.inr (Or.inr (Or.inr (Or.inr (Or.inr (Or.inr (Or.inr (Or.inr (Or.inl ⟨u.2.toNat, ρ u.2.toNat, y, n, _, rest.map (s_cv σ ρ b), rfl, rfl, ?_, h1.2, c2, k1⟩)))))))))))))))⟩
        show s_cv σ ρ b u :: _ = _
        rw [c1]
      next => cases h
    · rw [e, cond_true] at h
      cases h
      simp only [Bool.and_eq_true, Nat.beq_eq, Nat.blt_eq] at e
      have k1 := s_stay (st := (0, ((scr - 1 : Nat) : Int)) :: rest) hok hgo hP
      have := (hscr e.1).1 pc (s_cL σ ρ b L) (rest.map (s_cv σ ρ b)) _ hd k1
      rw [List.map_cons, s_cv7 e.2]
      exact this
  next => cases h
theorem s_mk_ok {c : s_C} {pc' : Nat} (hok : s_ok xs σ M) (hgo : s_pc t = pc') (h : s_mk t L st cn sn M c = some (.inr X')) (hP : s_hP P xs b σ ρ M X') (hc : ∀ ρ' : Nat → Nat, s_cc σ ρ' b c = s_cc σ ρ b c) : ∀ q : Nat, P (pc', s_cL σ ρ b L, Value.ref q :: st.map (s_cv σ ρ b), cn + 1, sn + c.2.2.1, s_ch σ ρ b 0 M.2.2.2 ++ [(q, s_cc σ ρ b c)]) := by
  intro q
  obtain ⟨E, R, B, H⟩ := M
  subst hgo
  unfold s_mk at h
  obtain ⟨h1, h⟩ := s_bif h
  simp only [s_fn_eq, s_app_eq] at h
  cases h
  simp only [s_wf, s_wM, Bool.and_eq_true] at h1
  obtain ⟨hwL, hwS, ⟨hwR, hwB⟩, hwH⟩ := h1
  have hag : ∀ i, i < H.length → (fun i => if i = H.length then q else ρ i) i = ρ i := fun i hi => if_neg (by omega)
  have key := hP σ (fun i => if i = H.length then q else ρ i) (fun _ _ => rfl) hag hok
  have e1 : s_cL σ (fun i => if i = H.length then q else ρ i) b L = s_cL σ ρ b L := s_wL_ag hwL (fun _ _ => rfl) hag
  have e2 : st.map (s_cv σ (fun i => if i = H.length then q else ρ i) b) = st.map (s_cv σ ρ b) := s_wS_ag hwS (fun _ _ => rfl) hag
  have e3 : s_ch σ (fun i => if i = H.length then q else ρ i) b 0 H = s_ch σ ρ b 0 H := s_ch_ag H 0 hwH (by omega) (fun _ _ => rfl) hag
  have e4 : s_cv σ (fun i => if i = H.length then q else ρ i) b (5, (H.length : Int)) = .ref q := by
    simp only [s_cv, Int.toNat_natCast, if_true]
  have e5 : s_cX σ (fun i => if i = H.length then q else ρ i) b (t, L, (5, (H.length : Int)) :: st, cn + 1, sn + c.2.2.1, (E, R, B, H ++ [c])) = (s_pc t, s_cL σ ρ b L, Value.ref q :: st.map (s_cv σ ρ b), cn + 1, sn + c.2.2.1, s_ch σ ρ b 0 H ++ [(q, s_cc σ ρ b c)]) := by
    show (s_pc t, s_cL σ _ b L, s_cv σ _ b (5, (H.length : Int)) :: st.map (s_cv σ _ b), cn + 1, sn + c.2.2.1, s_ch σ _ b 0 (H ++ [c])) = _
    rw [e1, e2, e4, s_ch_app, e3, hc, Nat.zero_add, if_pos rfl]
  rw [e5] at key
  exact key
theorem s_k32 {n : Int} (h0 : 0 ≤ n) (h1 : n ≤ 65536) : ¬ Int32.ofInt n < 0 ∧ (Int32.ofInt n).toNatClampNeg = n.toNat ∧ n.toNat ≤ 65536 := by
  have e : (Int32.ofInt n).toInt = n := Int32.toInt_ofInt_of_le (by omega) (by omega)
  refine ⟨fun h => ?_, ?_, by omega⟩
  · have h2 := Int32.lt_iff_toInt_lt.mp h
    rw [e] at h2
    have : (0 : Int32).toInt = 0 := rfl
    omega
  · show (Int32.ofInt n).toInt.toNat = _
    rw [e]
theorem s_q29_ok (hcl : ∀ S, g_pre CALL o nL ini bc bs cc P S → P S) {at' : ArrayType} {a : Nat} (hok : s_ok xs σ M) (hd : decode cc pc = .ok (.newarray at', 2)) (hgo : s_pc t = pc + 2) (hQ : s_nar at' = a) (ha : a < 4) (h : s_q29 bc bs t L st cn sn M a = some (.inr X')) (hP : s_hP P xs b σ ρ M X') : P (pc, s_cL σ ρ b L, st.map (s_cv σ ρ b), cn, sn, s_ch σ ρ b 0 M.2.2.2) := by
  have hat : at' = g_at a ∧ ∀ j : Nat, s_cv σ ρ b (s_dva a) = defaultValue (g_ty a) := by
    subst hQ
    cases at' <;> first | exact ⟨rfl, fun _ => rfl⟩ | (exfalso; revert ha; decide)
  obtain ⟨rfl, hdv⟩ := hat
  unfold s_q29 at h
  split at h
  next x rest =>
    split at h
    next n e1 =>
      obtain ⟨h1, h⟩ := s_bif h
      simp only [Bool.and_eq_true, decide_eq_true_eq] at h1
      obtain ⟨h0, h65, hb1, hb2⟩ := h1
      obtain ⟨z1, z2, z3⟩ := s_k32 h0 h65
      have hcc : ∀ ρ', s_cc σ ρ' b (true, a, n.toNat, s_dva a, []) = s_cc σ ρ b (true, a, n.toNat, s_dva a, []) := by
        intro ρ'
        unfold s_cc
        congr 3
        funext j
        show s_cv σ ρ' b (s_dva a) = s_cv σ ρ b (s_dva a)
        match a, ha with
        | 0, _ => rfl
        | 1, _ => rfl
        | 2, _ => rfl
        | 3, _ => rfl
      have k1 := s_mk_ok (ρ := ρ) (b := b) (P := P) hok hgo h hP hcc
      have hcell : s_cc σ ρ b (true, a, n.toNat, s_dva a, []) = (true, a, n.toNat, fun _ => defaultValue (g_ty a)) := by
        unfold s_cc
        congr 3
        funext j
        exact hdv j
      rw [hcell] at k1
      refine hcl _ ⟨_, _, hd, Or.inr (Or.inr (Or.inr (Or.inl (Or.inr (Or.inr (Or.inr (Or.inr (Or.inr (Or.inr (Or.inr (Or.inr (Or.inr (Or.inr (Or.inr (Or.inr (Or.inl ⟨a, Int32.ofInt n, n.toNat, rest.map (s_cv σ ρ b), rfl, rfl, ha, ?_, z1, z2, z3, Nat.le_of_ble_eq_true hb1, Nat.le_of_ble_eq_true hb2, k1⟩))))))))))))))))⟩
      show s_cv σ ρ b x :: _ = _
      rw [s_k_eq hok e1]
    next => cases h
  next => cases h
theorem s_q30_ok (hcl : ∀ S, g_pre CALL o nL ini bc bs cc P S → P S) {i kd a b0 : Nat} {v0 : Int} (hok : s_ok xs σ M) (hd : decode cc pc = .ok (.anewarray i, 3)) (hgo : s_pc t = pc + 3) (hlk : s_lkd o i kd a b0 v0) (h : s_q30 bc bs t L st cn sn M kd a = some (.inr X')) (hP : s_hP P xs b σ ρ M X') : P (pc, s_cL σ ρ b L, st.map (s_cv σ ρ b), cn, sn, s_ch σ ρ b 0 M.2.2.2) := by
  obtain ⟨ps, hlk⟩ := hlk
  unfold s_q30 at h
  split at h
  next x rest =>
    split at h
    next n e1 =>
      obtain ⟨h1, h9⟩ := s_bif h
      clear h
      simp only [Bool.and_eq_true, decide_eq_true_eq, Nat.beq_eq] at h1
      obtain ⟨h0, h65, hb1, hb2, rfl, rfl⟩ := h1
      obtain ⟨z1, z2, z3⟩ := s_k32 h0 h65
      have k1 := s_mk_ok (ρ := ρ) (b := b) (P := P) hok hgo h9 hP (fun ρ' => rfl)
      have hcell : s_cc σ ρ b (true, 4, n.toNat, (4, 0), []) = (true, 4, n.toNat, fun _ => .null) := rfl
      rw [hcell] at k1
      refine hcl _ ⟨_, _, hd, Or.inr (Or.inr (Or.inr (Or.inl (Or.inr (Or.inr (Or.inr (Or.inr (Or.inr (Or.inr (Or.inr (Or.inr (Or.inr (Or.inr (Or.inr (Or.inr (Or.inr (Or.inl ⟨_, _, Int32.ofInt n, n.toNat, rest.map (s_cv σ ρ b), _, _, rfl, rfl, hlk, ?_, z1, z2, z3, Nat.le_of_ble_eq_true hb1, Nat.le_of_ble_eq_true hb2, k1⟩)))))))))))))))))⟩
      show s_cv σ ρ b x :: _ = _
      rw [s_k_eq hok e1]
    next => cases h
  next => cases h
/-- new objects' fields -/
def s_dfok (ft : s_FT) : Prop := ∀ a, a < g_fl.length → ∀ (σ : Nat → Int) (ρ : Nat → Nat) (b j : Nat), s_cv σ ρ b (s_lk (s_dfl 0 (ft.getD a [])) j (0, 0)) = defaultValue ((parseFieldDescriptor (g_fd a j).1).getD .int)
theorem s_q31_ok (hcl : ∀ S, g_pre CALL o nL ini bc bs cc P S → P S) {ft : s_FT} (hdf : s_dfok ft) {i kd a b0 : Nat} {v0 : Int} (hok : s_ok xs σ M) (hd : decode cc pc = .ok (.new i, 3)) (hgo : s_pc t = pc + 3) (hlk : s_lkd o i kd a b0 v0) (h : s_q31 ft bc bs t L st cn sn M kd a b0 = some (.inr X')) (hP : s_hP P xs b σ ρ M X') : P (pc, s_cL σ ρ b L, st.map (s_cv σ ρ b), cn, sn, s_ch σ ρ b 0 M.2.2.2) := by
  obtain ⟨ps, hlk⟩ := hlk
  unfold s_q31 at h
  obtain ⟨h1, h9⟩ := s_bif h
  clear h
  simp only [Bool.and_eq_true, Nat.beq_eq] at h1
  obtain ⟨hb1, hb2, rfl⟩ := h1
  have hn0 := (g_lk_in hlk).2
  simp only [g_lkn, Bool.and_eq_true, decide_eq_true_eq, beq_iff_eq] at hn0
  have hcell : ∀ ρ', s_cc σ ρ' b (false, a, b0, (0, 0), s_dfl 0 (ft.getD a [])) = (false, a, b0, fun j => defaultValue ((parseFieldDescriptor (g_fd a j).1).getD .int)) := by
    intro ρ'
    unfold s_cc
    congr 3
    funext j
    exact hdf a hn0.1 σ ρ' b j
  have k1 := s_mk_ok (ρ := ρ) (b := b) (P := P) hok hgo h9 hP (fun ρ' => (hcell ρ').trans (hcell ρ).symm)
  rw [hcell] at k1
  exact hcl _ ⟨_, _, hd, Or.inr (Or.inr (Or.inr (Or.inl (Or.inr (Or.inr (Or.inr (Or.inr (Or.inr (Or.inr (Or.inr (Or.inr (Or.inr (Or.inr (Or.inr (Or.inr (Or.inr (Or.inr ⟨_, _, _, _, _, rfl, rfl, hlk, Nat.le_of_ble_eq_true hb1, Nat.le_of_ble_eq_true hb2, k1⟩)))))))))))))))))⟩
end S23
