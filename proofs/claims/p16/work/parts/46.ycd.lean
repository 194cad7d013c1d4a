-- a step's successors stand in the same code
section Y6
variable {R : y_R} {full t : List s_I} {L : y_L} {st : List y_T} {Xs : List y_X} {nL pc a b : Nat} {ins : Instr} {r : s_I}
def y_cd (full t : List s_I) (Xs : List y_X) : Prop := ∀ X ∈ Xs, ∀ q ∈ X.1, q ∈ t ∨ q ∈ full
theorem y_cd_nil : y_cd full t [] := fun X hX => by cases hX
theorem y_cd_1 {L : y_L} {st : List y_T} : y_cd full t [(t, L, st)] := fun X hX q hq => by
  rw [List.mem_singleton] at hX
  subst hX
  exact Or.inl hq
theorem y_cd_j {t' : List s_I} {L : y_L} {st : List y_T} {pc : Nat} (e : s_jump full pc = some t') : y_cd full t [(t', L, st)] := fun X hX q hq => by
  rw [List.mem_singleton] at hX
  subst hX
  exact Or.inr (s_jump_in e q hq)
theorem y_cd_app {A B : List y_X} (hA : y_cd full t A) (hB : y_cd full t B) : y_cd full t (A ++ B) := fun X hX => by
  rcases List.mem_append.mp hX with h | h
  · exact hA X h
  · exact hB X h
theorem y_road0_cd {cd : Nat} {x y : y_T} {rest : List y_T} {tt : Option (List s_I)} (htt : ∀ t', tt = some t' → ∀ q ∈ t', q ∈ t ∨ q ∈ full) (e : y_road0 cd x y L rest tt = some Xs) : y_cd full t Xs := by
  unfold y_road0 at e
  generalize y_cnd cd x.1.2.1 x.1.2.2.1 y.1.2.1 y.1.2.2.1 = B at e
  obtain ⟨⟨a, b⟩, c, d⟩ := B
  simp only [s_fi_eq] at e
  cases e1 : ((decide (b < a) || decide (d < c)) || y_rinf cd x.1.2.2.2 y.1.2.2.2)
  · rw [e1, cond_false] at e
    cases tt with
    | none => cases e
    | some t' =>
      generalize y_cq cd x.1.2.2.2 y.1.2.2.2 = Q at e
      obtain ⟨p, q⟩ := Q
      simp only [y_nar_eq, y_narN_eq] at e
      cases e
      intro X hX q hq
      rw [List.mem_singleton] at hX
      subst hX
      exact htt t' rfl q hq
  · rw [e1, cond_true] at e
    cases e
    exact y_cd_nil
theorem y_road_cd {cd : Nat} {x y : y_T} {rest : List y_T} {tt : Option (List s_I)} (htt : ∀ t', tt = some t' → ∀ q ∈ t', q ∈ t ∨ q ∈ full) (e : y_road cd x y L rest tt = some Xs) : y_cd full t Xs := by
  unfold y_road at e
  cases e0 : y_spl cd x y
  · rw [e0, cond_false] at e
    exact y_road0_cd htt e
  · rw [e0, cond_true] at e
    obtain ⟨A, B, e1, e2, rfl⟩ := y_two_ok e
    exact y_cd_app (y_road0_cd htt e1) (y_road0_cd htt e2)
theorem y_jmp_t {pc : Nat} : ∀ t', s_jump full pc = some t' → ∀ q ∈ t', q ∈ t ∨ q ∈ full := fun _ e q hq => Or.inr (s_jump_in e q hq)
theorem y_nxt_t {c : Bool} : ∀ t', (bif c then some t else none) = some t' → ∀ q ∈ t', q ∈ t ∨ q ∈ full := fun t' e q hq => by
  obtain ⟨-, e2⟩ := s_bif e
  cases e2
  exact Or.inl hq
theorem y_bra_cd {tgt cd : Nat} {x y : y_T} {rest : List y_T} (e : y_bra full r t tgt cd x y L rest = some Xs) : y_cd full t Xs := by
  unfold y_bra at e
  obtain ⟨A, B, e1, e2, rfl⟩ := y_two_ok e
  exact y_cd_app (y_road_cd y_jmp_t e1) (y_road_cd y_nxt_t e2)
theorem y_nul_cd {x : y_T} {rest : List y_T} {tt : Option (List s_I)} (htt : ∀ t', tt = some t' → ∀ q ∈ t', q ∈ t ∨ q ∈ full) (e : y_nul x L rest tt = some Xs) : y_cd full t Xs := by
  unfold y_nul at e
  cases e1 : Nat.beq x.1.1 2
  · rw [e1, cond_false] at e
    cases tt with
    | none => cases e
    | some t' =>
      cases e
      intro X hX q hq
      rw [List.mem_singleton] at hX
      subst hX
      exact htt t' rfl q hq
  · rw [e1, cond_true] at e
    cases e
    exact y_cd_nil
theorem y_nnl_cd {x : y_T} {rest : List y_T} {tt : Option (List s_I)} (htt : ∀ t', tt = some t' → ∀ q ∈ t', q ∈ t ∨ q ∈ full) (e : y_nnl x L rest tt = some Xs) : y_cd full t Xs := by
  unfold y_nnl at e
  cases e1 : Nat.beq x.1.1 4
  · rw [e1, cond_false] at e
    cases tt with
    | none => cases e
    | some t' =>
      have key : ∀ L', y_cd full t [(t', L', rest)] := fun L' X hX q hq => by
        rw [List.mem_singleton] at hX
        subst hX
        exact htt t' rfl q hq
      obtain ⟨v, i⟩ := x
      cases i with
      | zero => cases e; exact key _
      | succ i =>
        simp only [y_fv_eq, y_upd_eq] at e
        cases e
        exact key _
  · rw [e1, cond_true] at e
    cases e
    exact y_cd_nil
theorem y_tgts_cd {pc : Nat} {rest : List y_T} : ∀ {os : List Int} {Xs : List y_X}, y_tgts full pc L rest os = some Xs → y_cd full t Xs
  | [], _, e => by cases e; exact y_cd_nil
  | off :: os, Xs, e => by
    rw [y_tgts] at e
    split at e
    next p e1 =>
      split at e
      next t' e2 =>
        split at e
        next Ys e3 =>
          cases e
          exact y_cd_app (A := [(t', L, rest)]) (y_cd_j e2) (y_tgts_cd e3)
        next => cases e
      next => cases e
    next => cases e
theorem y_q19_cd (e : y_q19 full t L st = some Xs) : y_cd full t Xs := by
  unfold y_q19 at e
  split at e
  next y x rest =>
    split at e
    next pc2 len q kd a b v ins t' =>
      obtain ⟨h1, h2⟩ := s_bif e
      intro X hX q hq
      rcases y_bra_cd h2 X hX q hq with h | h
      · exact Or.inl (List.mem_cons_of_mem _ h)
      · exact Or.inr h
    next => cases e
  next => cases e
theorem y_jmp_cd (e : y_jmp full a L st = some Xs) : y_cd full t Xs := by
  unfold y_jmp at e
  split at e
  next t' e1 =>
    cases e
    exact y_cd_j e1
  next => cases e
theorem y_q21_cd (e : y_q21 full r t L st a b = some Xs) : y_cd full t Xs := by
  unfold y_q21 at e
  split at e
  next x rest => exact y_bra_cd (s_bif e).2
  next => cases e
theorem y_q22_cd (e : y_q22 full r t L st a b = some Xs) : y_cd full t Xs := by
  unfold y_q22 at e
  split at e
  next x rest => exact y_bra_cd (s_bif e).2
  next => cases e
theorem y_q23_cd {nn : Bool} (e : y_q23 full r t L st a nn = some Xs) : y_cd full t Xs := by
  unfold y_q23 at e
  split at e
  next x rest =>
    obtain ⟨-, h⟩ := s_bif e
    cases nn
    · obtain ⟨A, B, e1, e2, rfl⟩ := y_two_ok (show y_two (y_nul x L rest (s_jump full a)) (y_nnl x L rest (bif s_go r t then some t else none)) = some Xs from h)
      exact y_cd_app (y_nul_cd y_jmp_t e1) (y_nnl_cd y_nxt_t e2)
    · obtain ⟨A, B, e1, e2, rfl⟩ := y_two_ok (show y_two (y_nnl x L rest (s_jump full a)) (y_nul x L rest (bif s_go r t then some t else none)) = some Xs from h)
      exact y_cd_app (y_nnl_cd y_jmp_t e1) (y_nul_cd y_nxt_t e2)
  next => cases e
theorem y_q25_cd (e : y_q25 full pc L st ins = some Xs) : y_cd full t Xs := by
  unfold y_q25 at e
  split at e
  next dflt lo hi offs =>
    split at e
    next x rest => exact y_tgts_cd (s_bif e).2
    next => cases e
  next => cases e
theorem y_do_cd {ft : s_FT} {q kd k len : Nat} {v : Int} (e : y_do R ft full nL (pc, len, q, kd, a, k, v, ins) t L st = some Xs) : y_cd full t Xs := by
  unfold y_do at e
  simp only [Bool.cond_eq_ite] at e
  repeat' split at e
  all_goals first
    | exact y_q19_cd e
    | exact y_jmp_cd e
    | exact y_q21_cd e
    | exact y_q22_cd e
    | exact y_q23_cd e
    | exact y_q25_cd e
    | (cases e; done)
    | (cases e; exact y_cd_1)
    | (simp only [y_q0, y_q1, y_q2, y_q3, y_q4, y_q5, y_q6, y_q7, y_q8, y_q11, y_q12, y_q13, y_q14, y_q15, y_q16, y_q17, y_q18, y_q26, y_q27, y_q28, y_q32, y_q33, y_push, y_fv_eq, y_fil1_eq, y_fil2_eq, y_clr_eq, y_fgL_eq, y_fgS_eq, s_fn_eq, s_fi_eq, Bool.cond_eq_ite] at e
       repeat' split at e
       all_goals first
         | (cases e; done)
         | (cases e; exact y_cd_1))
end Y6
