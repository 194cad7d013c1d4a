-- straight pieces of code over values that are not known, instruction by instruction
def t_find : g_L → Nat → Option Value
  | [], _ => none
  | (j, v) :: t, i => bif Nat.beq j i then some v else t_find t i
theorem t_find_mem : ∀ {L : g_L} {i : Nat} {v : Value}, t_find L i = some v → (i, v) ∈ L
  | [], _, _, h => by cases h
  | (j, u) :: t, i, v, h => by
    rw [t_find] at h
    cases e : Nat.beq j i
    · rw [e, cond_false] at h
      exact List.mem_cons_of_mem _ (t_find_mem h)
    · rw [e, cond_true] at h
      cases h
      rw [Nat.beq_eq] at e
      subst e
      exact List.mem_cons_self
abbrev t_S : Type := g_L × List Value
def t_do (nL : Nat) (r : s_I) (L : g_L) (st : List Value) : Option t_S := match r.2.2.1 with
  | 0 => match g_con r.2.2.2.2.2.2.2 with
    | some (n, v) => bif Nat.beq n r.2.1 then some (L, v :: st) else none
    | none => none
  | 1 => match g_load r.2.2.2.2.2.2.2 with
    | some (i, n, p) => match t_find L i with
      | some v => bif Nat.beq n r.2.1 && p v then some (L, v :: st) else none
      | none => none
    | none => none
  | 2 => match g_stor r.2.2.2.2.2.2.2, st with
    | some (i, n, false, p), v :: rest => bif Nat.beq n r.2.1 && (p v && Nat.blt i nL) then some (g_st1 i v L, rest) else none
    | _, _ => none
  | 3 => match g_stor r.2.2.2.2.2.2.2, st with
    | some (i, n, true, p), v :: rest => bif Nat.beq n r.2.1 && (p v && Nat.blt (i + 1) nL) then some (g_st2 i v L, rest) else none
    | _, _ => none
  | 4 => match r.2.2.2.2.2.2.2 with
    | .iinc i n => match t_find L i with
      | some (.int x) => bif Nat.beq r.2.1 3 && Nat.blt i nL then some (g_st1 i (.int (x + Int32.ofInt n)) L, st) else none
      | _ => none
    | _ => none
  | 10 => bif Nat.beq r.2.1 3 && Nat.beq r.2.2.2.1 11 then (match r.2.2.2.2.2.2.2 with
    | .ldc2_w _ => some (L, .long (Int64.ofInt r.2.2.2.2.2.2.1) :: st)
    | _ => none) else none
  | 11 => match g_ib r.2.2.2.2.2.2.2, st with
    | some f, .int y :: .int x :: rest => bif Nat.beq r.2.1 1 then some (L, .int (f x y) :: rest) else none
    | _, _ => none
  | 13 => match g_iu r.2.2.2.2.2.2.2, st with
    | some f, .int x :: rest => bif Nat.beq r.2.1 1 then some (L, .int (f x) :: rest) else none
    | _, _ => none
  | 14 => match g_lb r.2.2.2.2.2.2.2, st with
    | some f, .long y :: .long x :: rest => bif Nat.beq r.2.1 1 then some (L, .long (f x y) :: rest) else none
    | _, _ => none
  | 16 => match r.2.2.2.2.2.2.2, st with
    | .lneg, .long x :: rest => bif Nat.beq r.2.1 1 then some (L, .long (-x) :: rest) else none
    | _, _ => none
  | 17 => match r.2.2.2.2.2.2.2, st with
    | .i2l, .int x :: rest => bif Nat.beq r.2.1 1 then some (L, .long x.toInt64 :: rest) else none
    | _, _ => none
  | 18 => match r.2.2.2.2.2.2.2, st with
    | .l2i, .long x :: rest => bif Nat.beq r.2.1 1 then some (L, .int x.toInt32 :: rest) else none
    | _, _ => none
  | 19 => match r.2.2.2.2.2.2.2, st with
    | .lcmp, .long y :: .long x :: rest => bif Nat.beq r.2.1 1 then some (L, .int (lg_cmp x y) :: rest) else none
    | _, _ => none
  | 20 => none
  | _ => none
def t_run (nL : Nat) : Nat → List s_I → g_L → List Value → Option (Nat × g_L × List Value)
  | 0, c, L, st => some (s_pc c, L, st)
  | n + 1, r :: t, L, st => bif Nat.beq (s_pc t) (r.1 + r.2.1) then (match t_do nL r L st with
    | some s => t_run nL n t s.1 s.2
    | none => none) else none
  | _ + 1, [], _, _ => none
section T30
variable {CALL : Nat → List Value → g_H → Nat → Nat → (Option Value → g_H → Prop) → Prop} {o nL : Nat} {ini : Bool} {bc bs : Nat} {cc : ByteArray} {P : g_S → Prop}
theorem t_ins (hcl : ∀ S, g_pre CALL o nL ini bc bs cc P S → P S) {r : s_I} (hI : s_okI cc o r = true) (hq : r.2.2.1 < 40) {L L' : g_L} {st st' : List Value} {w : g_W} (h : t_do nL r L st = some (L', st')) (k : P (r.1 + r.2.1, L', st', w)) : P (r.1, L, st, w) := by
  obtain ⟨pc, len, q, kd, a, b, v, ins⟩ := r
  obtain ⟨⟨n, hd, hlen, hne⟩, hQ, hlk⟩ := s_okI_eq hI (by have : q < 40 := hq; omega)
  subst hlen
  unfold t_do at h
  simp only at h
  apply hcl
  refine ⟨ins, len, hd, ?_⟩
  split at h
  · split at h
    next n' u e =>
      obtain ⟨h1, h2⟩ := s_bif h
      cases h2
      rw [Nat.beq_eq] at h1
      subst h1
      exact Or.inl (Or.inl ⟨_, e, k⟩)
    next => cases h
  · split at h
    next i n' p e =>
      split at h
      next u eu =>
        obtain ⟨h1, h2⟩ := s_bif h
        cases h2
        rw [Bool.and_eq_true, Nat.beq_eq] at h1
        obtain ⟨rfl, h3⟩ := h1
        exact Or.inl (Or.inr (Or.inl ⟨_, _, _, e, t_find_mem eu, h3, k⟩))
      next => cases h
    next => cases h
  · split at h
    next i n' p u rest e =>
      obtain ⟨h1, h2⟩ := s_bif h
      cases h2
      rw [Bool.and_eq_true, Bool.and_eq_true, Nat.beq_eq, Nat.blt_eq] at h1
      obtain ⟨rfl, h3, h4⟩ := h1
      exact Or.inl (Or.inr (Or.inr (Or.inl ⟨_, _, _, _, e, rfl, h3, h4, k⟩)))
    next => cases h
  · split at h
    next i n' p u rest e =>
      obtain ⟨h1, h2⟩ := s_bif h
      cases h2
      rw [Bool.and_eq_true, Bool.and_eq_true, Nat.beq_eq, Nat.blt_eq] at h1
      obtain ⟨rfl, h3, h4⟩ := h1
      exact Or.inl (Or.inr (Or.inr (Or.inr (Or.inl ⟨_, _, _, _, e, rfl, h3, h4, k⟩))))
    next => cases h
  · split at h
    next i n' =>
      split at h
      next x eu =>
        obtain ⟨h1, h2⟩ := s_bif h
        cases h2
        rw [Bool.and_eq_true, Nat.beq_eq, Nat.blt_eq] at h1
        obtain ⟨rfl, h4⟩ := h1
        exact Or.inl (Or.inr (Or.inr (Or.inr (Or.inr (Or.inl ⟨_, _, _, rfl, Or.inl rfl, t_find_mem eu, h4, k⟩)))))
      next => cases h
    next => cases h
  · obtain ⟨h1, h2⟩ := s_bif h
    rw [Bool.and_eq_true, Nat.beq_eq, Nat.beq_eq] at h1
    obtain ⟨rfl, rfl⟩ := h1
    split at h2
    next i =>
      cases h2
      obtain ⟨ps, hm⟩ := hlk (by decide) i rfl
      exact Or.inl (Or.inr (Or.inr (Or.inr (Or.inr (Or.inr (Or.inr (Or.inr (Or.inr (Or.inr (Or.inr (Or.inr ⟨_, _, _, _, _, _, rfl, rfl, Or.inl rfl, hm, k⟩)))))))))))
    next => cases h2
  · split at h
    next f y x rest e =>
      obtain ⟨h1, h2⟩ := s_bif h
      cases h2
      rw [Nat.beq_eq] at h1
      subst h1
      exact Or.inr (Or.inl (Or.inl ⟨_, _, _, _, e, rfl, rfl, k⟩))
    next => cases h
  · split at h
    next f x rest e =>
      obtain ⟨h1, h2⟩ := s_bif h
      cases h2
      rw [Nat.beq_eq] at h1
      subst h1
      exact Or.inr (Or.inl (Or.inr (Or.inr (Or.inl ⟨_, _, _, e, rfl, rfl, k⟩))))
    next => cases h
  · split at h
    next f y x rest e =>
      obtain ⟨h1, h2⟩ := s_bif h
      cases h2
      rw [Nat.beq_eq] at h1
      subst h1
      exact Or.inr (Or.inl (Or.inr (Or.inr (Or.inr (Or.inl ⟨_, _, _, _, e, rfl, rfl, k⟩)))))
    next => cases h
  · split at h
    next x rest =>
      obtain ⟨h1, h2⟩ := s_bif h
      cases h2
      rw [Nat.beq_eq] at h1
      subst h1
      exact Or.inr (Or.inl (Or.inr (Or.inr (Or.inr (Or.inr (Or.inr (Or.inl ⟨_, _, rfl, rfl, rfl, k⟩)))))))
    next => cases h
  · split at h
    next x rest =>
      obtain ⟨h1, h2⟩ := s_bif h
      cases h2
      rw [Nat.beq_eq] at h1
      subst h1
      exact Or.inr (Or.inl (Or.inr (Or.inr (Or.inr (Or.inr (Or.inr (Or.inr (Or.inr (Or.inl ⟨_, _, rfl, rfl, rfl, k⟩)))))))))
    next => cases h
  · split at h
    next x rest =>
      obtain ⟨h1, h2⟩ := s_bif h
      cases h2
      rw [Nat.beq_eq] at h1
      subst h1
      exact Or.inr (Or.inl (Or.inr (Or.inr (Or.inr (Or.inr (Or.inr (Or.inr (Or.inr (Or.inr (Or.inl ⟨_, _, rfl, rfl, rfl, k⟩))))))))))
    next => cases h
  · split at h
    next x y rest =>
      obtain ⟨h1, h2⟩ := s_bif h
      cases h2
      rw [Nat.beq_eq] at h1
      subst h1
      exact Or.inr (Or.inl (Or.inr (Or.inr (Or.inr (Or.inr (Or.inr (Or.inr (Or.inl ⟨_, _, _, rfl, rfl, rfl, k⟩))))))))
    next => cases h
  · cases h
  · cases h
theorem t_do_lt {r : s_I} {L : g_L} {st : List Value} {s : t_S} (h : t_do nL r L st = some s) : r.2.2.1 < 40 := by
  unfold t_do at h
  split at h <;> first | omega | cases h
theorem t_run_ok (hcl : ∀ S, g_pre CALL o nL ini bc bs cc P S → P S) {w : g_W} : ∀ (n : Nat) (c : List s_I) (L : g_L) (st : List Value) (pc' : Nat) (L' : g_L) (st' : List Value), (∀ r ∈ c, s_okI cc o r = true) → t_run nL n c L st = some (pc', L', st') → P (pc', L', st', w) → P (s_pc c, L, st, w)
  | 0, c, L, st, pc', L', st', hc, h, k => by
    cases h
    exact k
  | n + 1, [], L, st, pc', L', st', hc, h, k => by cases h
  | n + 1, r :: t, L, st, pc', L', st', hc, h, k => by
    rw [t_run] at h
    obtain ⟨h1, h2⟩ := s_bif h
    rw [Nat.beq_eq] at h1
    split at h2
    next s e =>
      obtain ⟨L1, st1⟩ := s
      have hk := t_run_ok hcl n t L1 st1 pc' L' st' (fun q hq => hc q (List.mem_cons_of_mem _ hq)) h2 k
      rw [h1] at hk
      exact t_ins hcl (hc r List.mem_cons_self) (t_do_lt e) e hk
    next => cases h2
theorem s_jump_mem : ∀ {c c' : List s_I} {pc : Nat}, s_jump c pc = some c' → s_pc c' = pc ∧ ∀ r ∈ c', r ∈ c
  | [], _, _, h => by cases h
  | r :: t, c', pc, h => by
    rw [s_jump] at h
    cases e : Nat.beq r.1 pc
    · rw [e, cond_false] at h
      obtain ⟨h1, h2⟩ := s_jump_mem h
      exact ⟨h1, fun q hq => List.mem_cons_of_mem _ (h2 q hq)⟩
    · rw [e, cond_true] at h
      cases h
      rw [Nat.beq_eq] at e
      exact ⟨e, fun q hq => hq⟩
/-- from a place of a table on -/
def t_at (full : List s_I) (nL pc n : Nat) (L : g_L) (st : List Value) : Option (Nat × g_L × List Value) := match s_jump full pc with
  | some c => t_run nL n c L st
  | none => none
theorem t_at_ok (hcl : ∀ S, g_pre CALL o nL ini bc bs cc P S → P S) {full : List s_I} (hfull : ∀ r ∈ full, s_okI cc o r = true) {pc n : Nat} {L L' : g_L} {st st' : List Value} {pc' : Nat} {w : g_W} (h : t_at full nL pc n L st = some (pc', L', st')) (k : P (pc', L', st', w)) : P (pc, L, st, w) := by
  unfold t_at at h
  split at h
  next c e =>
    obtain ⟨h1, h2⟩ := s_jump_mem e
    have h3 := t_run_ok hcl n c L st pc' L' st' (fun r hr => hfull r (h2 r hr)) h k
    rw [h1] at h3
    exact h3
  next => cases h
end T30
/-- a table that stops at places -/
def t_stop (ps : List Nat) (full : List s_I) : List s_I := full.map (fun r => bif ps.any (Nat.beq r.1) then (r.1, r.2.1, 50, r.2.2.2) else r)
theorem t_stop_ok {cc : ByteArray} {o : Nat} {ps : List Nat} {full : List s_I} (h : ∀ r ∈ full, s_okI cc o r = true) : ∀ r ∈ t_stop ps full, s_okI cc o r = true := by
  intro r hr
  obtain ⟨q, hq, rfl⟩ := List.mem_map.mp hr
  have h1 := h q hq
  cases ps.any (Nat.beq q.1)
  · exact h1
  · rw [cond_true]
    obtain ⟨pc, len, k, kd, a, b, v, ins⟩ := q
    unfold s_okI at h1 ⊢
    rw [Bool.and_eq_true] at h1 ⊢
    refine ⟨?_, ?_⟩
    · have h2 := h1.1
      simp only at h2 ⊢
      split at h2
      next i n e =>
        simp only [Bool.and_eq_true, Bool.or_eq_true] at h2 ⊢
        exact ⟨h2.1, h2.2.1, Or.inr (Or.inr rfl)⟩
      next => cases h2
    · rw [Bool.and_eq_true]
      refine ⟨rfl, ?_⟩
      simp only
      split
      · rfl
      · rw [Bool.or_eq_true]
        exact Or.inl rfl
