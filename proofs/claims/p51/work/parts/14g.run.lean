-- methods of the machine over bounds are the plain machine's
section S27
variable {σ : Nat → Int} {ρ : Nat → Nat} {b : Nat}
theorem s_args_eq : ∀ (i : Nat) (as : List s_V), s_cL σ ρ b (s_args i as) = lv_args i (as.map (s_cv σ ρ b))
  | _, [] => rfl
  | i, v :: vs => by
    have h := s_args_eq (if s_c2 v = true then i + 2 else i + 1) vs
    show (i, s_cv σ ρ b v) :: s_cL σ ρ b (s_args (bif s_c2 v then i + 2 else i + 1) vs) = (i, s_cv σ ρ b v) :: lv_args (if (s_cv σ ρ b v).category = 2 then i + 2 else i + 1) (vs.map (s_cv σ ρ b))
    rw [s_cat]
    cases e : s_c2 v
    · rw [e] at h
      exact congrArg _ h
    · rw [e] at h
      exact congrArg _ h
theorem s_sl_eq : ∀ (as : List s_V), (lg_sl (as.map (s_cv σ ρ b))).length = s_sum as
  | [] => rfl
  | v :: vs => by
    have h := s_sl_eq vs
    have e0 : lg_sl ((v :: vs).map (s_cv σ ρ b)) = (if (s_cv σ ρ b v).category = 2 then [Slot.val (s_cv σ ρ b v), .second] else [Slot.val (s_cv σ ρ b v)]) ++ lg_sl (vs.map (s_cv σ ρ b)) := by
      unfold lg_sl
      rw [List.map_cons, List.flatMap_cons]
    rw [e0, List.length_append, h, s_cat]
    simp only [s_sum]
    cases s_c2 v <;> rfl
theorem s_rets_in {rt bc bs : Nat} : ∀ {Xs : List s_X} {outs : List (Option s_V × s_M)}, s_rets rt bc bs Xs = some outs → (∀ X ∈ Xs, ∃ out, s_retX rt bc bs X = some out ∧ out ∈ outs) ∧ ∀ out ∈ outs, ∃ X ∈ Xs, s_retX rt bc bs X = some out
  | [], outs, h => by cases h; exact ⟨fun X hX => (by cases hX), fun out ho => (by cases ho)⟩
  | X :: Xs, outs, h => by
    simp only [s_rets] at h
    split at h
    next => cases h
    next q e =>
      split at h
      next => cases h
      next qs e2 =>
        cases h
        obtain ⟨h1, h2⟩ := s_rets_in e2
        refine ⟨fun Y hY => ?_, fun out ho => ?_⟩
        · rcases List.mem_cons.mp hY with rfl | hY
          · exact ⟨q, e, List.mem_cons_self⟩
          · obtain ⟨out, a1, a2⟩ := h1 Y hY
            exact ⟨out, a1, List.mem_cons_of_mem _ a2⟩
        · rcases List.mem_cons.mp ho with rfl | ho
          · exact ⟨X, List.mem_cons_self, e⟩
          · obtain ⟨Y, a1, a2⟩ := h2 out ho
            exact ⟨Y, List.mem_cons_of_mem _ a1, a2⟩
/-- an end of the machine over bounds is one of the plain machine -/
theorem s_retX_ok {xs : Nat → Int} {cc : ByteArray} {o rt bc bs : Nat} {rtT : Option FieldType} {post : Option Value → g_H → Prop} (hrt : s_rtok rt rtT) {X : s_X} {out : Option s_V × s_M} (h : s_retX rt bc bs X = some out) (hX : ∀ r ∈ X.1, s_okI cc o r = true) :
    out.2 = X.2.2.2.2.2 ∧ ∀ (σ : Nat → Int) (ρ : Nat → Nat) (b : Nat), s_ok xs σ X.2.2.2.2.2 → post (out.1.map (s_cv σ ρ b)) (s_ch σ ρ b 0 out.2.2.2.2) → g_end cc rtT bc bs post (s_cX σ ρ b X) := by
  obtain ⟨code, L, st, cn, sn, M⟩ := X
  match code, h, hX with
  | r :: t, h, hX =>
    obtain ⟨pc, len, q, kd, a, k, v, ins⟩ := r
    have hr := hX _ List.mem_cons_self
    simp only [s_retX] at h
    obtain ⟨h1, h2⟩ := s_bif h
    clear h
    rw [Bool.and_eq_true] at h1
    have hb := Nat.le_of_ble_eq_true h1.1
    have hs := Nat.le_of_ble_eq_true h1.2
    split at h2
    next =>
      obtain ⟨h3, h4⟩ := s_bif h2
      cases h4
      rw [Bool.and_eq_true, Nat.beq_eq, Nat.beq_eq] at h3
      obtain ⟨rfl, rfl⟩ := h3
      obtain ⟨⟨n, hd, hlen, hne⟩, hQ, -⟩ := s_okI_eq hr (by omega)
      have hi : ins = .return_ := of_decide_eq_true hQ
      have hn := hne (by decide)
      rw [hn, hi] at hd
      exact ⟨rfl, fun σ ρ b hok hp => ⟨hb, hs, Or.inr (Or.inr (Or.inr ⟨hd, hrt, rfl, hp⟩))⟩⟩
    next u hXo =>
      cases e1 : Nat.beq q 40
      · rw [e1, cond_false] at h2
        cases e2 : (Nat.beq q 41 && (Nat.beq rt 3 && s_tk 1 u))
        · rw [e2, cond_false] at h2
          obtain ⟨h3, h4⟩ := s_bif h2
          cases h4
          simp only [Bool.and_eq_true, Nat.beq_eq] at h3
          obtain ⟨rfl, rfl, hv⟩ := h3
          obtain ⟨⟨n, hd, hlen, hne⟩, hQ, -⟩ := s_okI_eq hr (by omega)
          have hi : ins = .areturn := of_decide_eq_true hQ
          have hn := hne (by decide)
          rw [hn, hi] at hd
          obtain ⟨nm, hnm⟩ := hrt
          refine ⟨rfl, fun σ ρ b hok hp => ⟨hb, hs, Or.inr (Or.inr (Or.inl ⟨s_cv σ ρ b u, nm, hd, hnm, ?_, rfl, hp⟩))⟩⟩
          exact s_tk_4 hv
        · rw [e2, cond_true] at h2
          cases h2
          simp only [Bool.and_eq_true, Nat.beq_eq] at e2
          obtain ⟨rfl, rfl, hv⟩ := e2
          obtain ⟨⟨n, hd, hlen, hne⟩, hQ, -⟩ := s_okI_eq hr (by omega)
          have hi : ins = .lreturn := of_decide_eq_true hQ
          have hn := hne (by decide)
          rw [hn, hi] at hd
          refine ⟨rfl, fun σ ρ b hok hp => ?_⟩
          obtain ⟨x, ex⟩ := s_tk_1 (σ := σ) (ρ := ρ) (b := b) hv
          refine ⟨hb, hs, Or.inr (Or.inl ⟨x, hd, hrt, ?_, ?_⟩)⟩
          · show [s_cv σ ρ b u] = _
            rw [ex]
          · rw [← ex]; exact hp
      · rw [e1, cond_true] at h2
        rw [Nat.beq_eq] at e1
        subst e1
        obtain ⟨⟨n, hd, hlen, hne⟩, hQ, -⟩ := s_okI_eq hr (by omega)
        have hi : ins = .ireturn := of_decide_eq_true hQ
        have hn := hne (by decide)
        rw [hn, hi] at hd
        have fin : ∀ (x : Int32) (σ : Nat → Int) (ρ : Nat → Nat) (b : Nat), s_cv σ ρ b u = .int x → out = (some u, M) → post (out.1.map (s_cv σ ρ b)) (s_ch σ ρ b 0 out.2.2.2.2) → (∃ ty, rtT = some ty ∧ narrow ty (.int x) = .int x) → g_end cc rtT bc bs post (s_cX σ ρ b ((pc, len, 40, kd, a, k, v, ins) :: t, L, [u], cn, sn, M)) := by
          intro x σ ρ b ex ho hp hty
          obtain ⟨ty, t1, t2⟩ := hty
          subst ho
          refine ⟨hb, hs, Or.inl ⟨x, ty, hd, t1, t2, ?_, ?_⟩⟩
          · show [s_cv σ ρ b u] = _
            rw [ex]
          · rw [← ex]; exact hp
        unfold s_rti at h2
        split at h2
        next =>
          obtain ⟨h3, h4⟩ := s_bif h2
          cases h4
          refine ⟨rfl, fun σ ρ b hok hp => ?_⟩
          obtain ⟨x, ex⟩ := s_tk_0 (σ := σ) (ρ := ρ) (b := b) h3
          exact fin x σ ρ b ex rfl hp ⟨.int, hrt, rfl⟩
        next =>
          split at h2
          next iv e5 =>
            obtain ⟨h3, h4⟩ := s_bif h2
            cases h4
            simp only [Bool.and_eq_true, decide_eq_true_eq] at h3
            refine ⟨rfl, fun σ ρ b hok hp => ?_⟩
            obtain ⟨x, ex, x1, x2, -, -⟩ := s_iv_eq (ρ := ρ) (b := b) hok e5
            refine fin x σ ρ b ex rfl hp ⟨.boolean, hrt, ?_⟩
            have hx : x = 0 ∨ x = 1 := by
              have h0 : (0 : Int32).toInt = 0 := rfl
              have h1 : (1 : Int32).toInt = 1 := rfl
              rcases (show x.toInt = 0 ∨ x.toInt = 1 by omega) with h | h
              · exact Or.inl (Int32.toInt_inj.mp (h.trans h0.symm))
              · exact Or.inr (Int32.toInt_inj.mp (h.trans h1.symm))
            rcases hx with rfl | rfl <;> rfl
          next => cases h2
        next => cases h2
    next => cases h2
theorem s_body_ok {xs : Nat → Int} {codes : List (List s_I)} {ft : s_FT} {mi : List s_MI} {F d : Nat} {K : s_Call} (hft : s_ftok ft) (hdf : s_dfok ft) (hmi : s_miok mi) (hco : ∀ j q, mi[j]? = some q → s_pc (codes.getD j []) = 0 ∧ ∀ r ∈ codes.getD j [], s_okI (g_by j) q.2.2.2.2.2 r = true) (ih : s_CS xs mi K (g_run d)) :
    s_CS xs mi (s_body codes ft mi F K) (g_run (d + 1)) := by
  intro j as M outs h
  simp only [s_body] at h
  split at h
  next => cases h
  next Q e1 =>
    obtain ⟨h1, h2⟩ := s_bif h
    clear h
    split at h2
    next => cases h2
    next Xs e2 =>
      obtain ⟨m1, m2, m3, m4, m5⟩ := hmi j Q e1
      obtain ⟨c1, c2⟩ := hco j Q e1
      obtain ⟨r1, r2⟩ := s_rets_in h2
      have len : ∀ Y ∈ Xs, M.1.length ≤ Y.2.2.2.2.2.1.length ∧ M.2.2.2.length ≤ Y.2.2.2.2.2.2.2.2.length ∧ ∀ r ∈ Y.1, s_okI (g_by j) Q.2.2.2.2.2 r = true :=
        (s_loop_ok (P := fun _ => True) (xs := xs) (b := 0) (CALL := g_run d) (cc := g_by j) (fun _ _ => trivial) (fun h => absurd h (Nat.lt_irrefl 0)) hft hdf hmi ih c2 F _ Xs e2 c2).1
      refine ⟨fun out ho => ?_, fun σ ρ b hok q hq post hpost => ?_⟩
      · obtain ⟨X, hX, e3⟩ := r2 out ho
        have l1 := len X hX
        rw [(s_retX_ok (xs := xs) (post := fun _ _ => True) m3 e3 l1.2.2).1]
        exact ⟨l1.1, l1.2.1⟩
      · rw [e1] at hq
        cases hq
        refine ⟨m1, ?_, ?_⟩
        · rw [s_sl_eq, m2]
          exact Nat.le_of_ble_eq_true h1
        · rw [m5, m2, m4]
          intro P hpP hcl
          have key := (s_loop_ok (P := P) (xs := xs) (b := b) hcl (fun h => absurd h (Nat.lt_irrefl 0)) hft hdf hmi ih c2 F _ Xs e2 c2).2 σ ρ hok ?_
          · have e4 : s_cX σ ρ b (codes.getD j [], s_args 0 as, [], 0, 0, M) = (0, lv_args 0 (as.map (s_cv σ ρ b)), [], 0, 0, s_ch σ ρ b 0 M.2.2.2) := by
              unfold s_cX
              dsimp only
              rw [c1, s_args_eq]
              rfl
            rw [e4] at key
            exact key
          · intro Y hY σ' ρ' a1 a2 hok'
            obtain ⟨out, e5, ho⟩ := r1 Y hY
            obtain ⟨g1, g2⟩ := s_retX_ok (xs := xs) (post := post) m3 e5 (len Y hY).2.2
            exact hpP _ (g2 σ' ρ' b hok' (hpost out ho σ' ρ' a1 a2 (by rw [g1]; exact hok')))
/-- EVERY CALL of the machine over bounds is sound -/
theorem s_run_ok {xs : Nat → Int} {codes : List (List s_I)} {ft : s_FT} {mi : List s_MI} {F : Nat} {ov : Nat → List s_V → Option s_V} (hft : s_ftok ft) (hdf : s_dfok ft) (hmi : s_miok mi) (hco : ∀ j q, mi[j]? = some q → s_pc (codes.getD j []) = 0 ∧ ∀ r ∈ codes.getD j [], s_okI (g_by j) q.2.2.2.2.2 r = true)
    (hov : ∀ j as v, ov j as = some v → ∀ K M, s_body codes ft mi F K j as M = some [(some v, M)]) :
    ∀ d, s_CS xs mi (s_run codes ft mi F ov d) (g_run d) := by
  intro d
  induction d with
  | zero => intro j as M outs h; cases h
  | succ d ih =>
    intro j as M outs h
    simp only [s_run] at h
    split at h
    next v e =>
      cases h
      exact s_body_ok hft hdf hmi hco ih j as M _ (hov j as v e _ M)
    next => exact s_body_ok hft hdf hmi hco ih j as M outs h
end S27
