-- the machine over numbers: calls, runs, methods
/-- a call, told of numbers -/
def xa_C (I : xa_I) (A : Nat → Nat) (h0 : g_H) (d : Nat) : xa_C0 := fun j vs M post => ∀ (h : g_H) (xs : List Value), xa_H I A M h0 h → xa_gS A vs xs → ∀ post' : Option Value → g_H → Prop, (∀ v M' x h', post v M' → xa_gR A v x → xa_H I A M' h0 h' → post' x h') → g_run d j xs h 0 0 post'
section XA4
variable {CALL : Nat → List Value → g_H → Nat → Nat → (Option Value → g_H → Prop) → Prop} {cc : ByteArray} {o nL : Nat} {ini : Bool} {bc bs : Nat} {P : g_S → Prop}
variable {I : xa_I} {A : Nat → Nat} {h0 h : g_H} {next : xa_K} {full t : List s_I} {L : xa_L} {st rest : List xa_V} {M : xa_M} {Ls : g_L} {sts : List Value} {pc a b kd : Nat} {ins : Instr} {r : s_I} {v u : xa_V} {x : Value} {C : xa_C0} {mi : List s_MI}
/-- calls are sound -/
def xa_CS (I : xa_I) (A : Nat → Nat) (h0 : g_H) (C : xa_C0) (CALL : Nat → List Value → g_H → Nat → Nat → (Option Value → g_H → Prop) → Prop) : Prop := ∀ j vs M post, C j vs M post → ∀ (h : g_H) (xs : List Value), xa_H I A M h0 h → xa_gS A vs xs → ∀ post' : Option Value → g_H → Prop, (∀ v M' x h', post v M' → xa_gR A v x → xa_H I A M' h0 h' → post' x h') → CALL j xs h 0 0 post'
theorem xa_gS_app : ∀ {a b : List xa_V} {sts : List Value}, xa_gS A (a ++ b) sts → ∃ u v, sts = u ++ v ∧ u.length = a.length ∧ xa_gS A a u ∧ xa_gS A b v
  | [], b, sts, h => ⟨[], sts, rfl, rfl, trivial, h⟩
  | _ :: _, _, [], h => h.elim
  | t :: ts, b, x :: xs, h => by
    obtain ⟨u, v, e, hl, h1, h2⟩ := xa_gS_app (a := ts) h.2
    exact ⟨x :: u, v, by rw [e]; rfl, by simp [hl], ⟨h.1, h1⟩, h2⟩
theorem xa_gS_app2 : ∀ {a b : List xa_V} {u v : List Value}, xa_gS A a u → xa_gS A b v → xa_gS A (a ++ b) (u ++ v)
  | [], _, [], _, _, h => h
  | [], _, _ :: _, _, h, _ => h.elim
  | _ :: _, _, [], _, h, _ => h.elim
  | _ :: _, _, _ :: _, _, h, h2 => ⟨h.1, xa_gS_app2 h.2 h2⟩
theorem xa_gS_rev : ∀ {a : List xa_V} {u : List Value}, xa_gS A a u → xa_gS A a.reverse u.reverse
  | [], [], _ => trivial
  | [], _ :: _, h => h.elim
  | _ :: _, [], h => h.elim
  | t :: ts, x :: xs, h => by
    rw [List.reverse_cons, List.reverse_cons]
    exact xa_gS_app2 (xa_gS_rev h.2) ⟨h.1, trivial⟩
theorem xa_sum_g : ∀ {st : List xa_V} {sts : List Value}, xa_gS A st sts → g_sum sts = xa_sum st
  | [], [], _ => rfl
  | [], _ :: _, h => h.elim
  | _ :: _, [], h => h.elim
  | t :: ts, x :: xs, h => by
    have e := xa_sum_g h.2
    have hc := xa_cat h.1
    show ((x :: xs).map fun v => v.category).sum = (bif xa_c2 t then 2 else 1) + xa_sum ts
    rw [List.map_cons, List.sum_cons, hc, ← e]
    cases xa_c2 t <;> rfl
theorem xa_slA : ∀ {vs : List xa_V} {xs : List Value}, xa_gS A vs xs → (lg_sl xs).length = xa_sum vs
  | [], [], _ => rfl
  | [], _ :: _, h => h.elim
  | _ :: _, [], h => h.elim
  | v :: vs, x :: xs, h => by
    have e := xa_slA h.2
    have hc := xa_cat h.1
    have h1 : (lg_sl (x :: xs)).length = x.category + (lg_sl xs).length := by
      cases x <;> simp [lg_sl, Value.category] <;> omega
    rw [h1, hc, e]
    rfl
theorem xa_tkn_eq : ∀ (n : Nat) (st acc as rest : List xa_V), xa_tkn n st acc = some (as, rest) → ∃ l, as = l.reverse ++ acc ∧ st = l ++ rest ∧ l.length = n
  | 0, st, acc, as, rest, h => by cases h; exact ⟨[], rfl, rfl, rfl⟩
  | n + 1, v :: st, acc, as, rest, h => by
    obtain ⟨l, h1, h2, h3⟩ := xa_tkn_eq n st (v :: acc) as rest h
    exact ⟨v :: l, by rw [h1]; simp, by rw [h2]; rfl, by simp [h3]⟩
  | _ + 1, [], _, _, _, h => by cases h
theorem xa_rst_ok {sr : List Value} {o : Option xa_V} {y : Option Value} (h : xa_gR A o y) (hS : xa_gS A rest sr) : xa_gS A (xa_rst o rest) (y.toList ++ sr) := by
  cases o with
  | none =>
    have e : y = none := h
    subst e
    exact hS
  | some v =>
    obtain ⟨z, rfl, hz⟩ := h
    exact ⟨hz, hS⟩
theorem xa_args_g (hS : xa_gS A st sts) {as : List xa_V} {n : Nat} (e : xa_tkn n st [] = some (as, rest)) : ∃ xs sr, sts = xs.reverse ++ sr ∧ xs.length = n ∧ xa_gS A as xs ∧ xa_gS A rest sr := by
  obtain ⟨l, g1, g2, g3⟩ := xa_tkn_eq _ _ _ _ _ e
  rw [List.append_nil] at g1
  rw [g2] at hS
  obtain ⟨u, w, hu, hul, hS1, hS2⟩ := xa_gS_app hS
  have hr := xa_gS_rev hS1
  rw [← g1] at hr
  exact ⟨u.reverse, w, by rw [List.reverse_reverse]; exact hu, by rw [List.length_reverse, hul, g3], hr, hS2⟩
theorem xa_q35_ok (hcl : ∀ S, g_pre CALL o nL ini bc bs cc P S → P S) (hC : xa_CS I A h0 C CALL) {i : Nat} {v0 : Int} (hd : decode cc pc = .ok (.invokestatic i, 3)) (hgo : s_pc t = pc + 3) (hlk : s_lkd o i kd a b v0) (hIt : ∀ r ∈ t, s_okI cc o r = true) (e : xa_q35 C next t L st M kd a b) (hN : xa_N cc o P I A h0 next) : xa_P P I A h0 pc L st M := by
  intro h Ls sts hH hL hS
  obtain ⟨ps, hlk⟩ := hlk
  unfold xa_q35 at e
  split at e
  next as rest e1 =>
    obtain ⟨h1, h2⟩ := xa_if_eq e
    simp only [Bool.and_eq_true, Bool.or_eq_true, Nat.beq_eq, Nat.ble_eq] at h1
    obtain ⟨xs, sr, hs, hl, ha, hr⟩ := xa_args_g hS e1
    refine hcl _ ⟨_, _, hd, Or.inr (Or.inr (Or.inr (Or.inr (Or.inr (Or.inl ⟨i, kd, _, b, v0, ps, xs, sr, 0, 0, rfl, rfl, h1.1, hlk, hs, hl, by rw [xa_sum_g hr]; exact h1.2, Nat.zero_le _, Nat.zero_le _, ?_⟩)))))⟩
    exact hC _ _ _ _ h2 h xs hH ha _ (fun v M' x h' hn hx hH' => xa_N1 hN hIt hn hgo hH' hL (xa_rst_ok hx hr))
  next => exact e.elim
theorem xa_q34_ok (hcl : ∀ S, g_pre CALL o nL ini bc bs cc P S → P S) (hmi : s_miok mi) (hC : xa_CS I A h0 C CALL) {i : Nat} {v0 : Int} (hd : decode cc pc = .ok (.invokevirtual i, 3)) (hgo : s_pc t = pc + 3) (hlk : s_lkd o i kd a b v0) (hIt : ∀ r ∈ t, s_okI cc o r = true) (e : xa_q34 I mi C next t L st M kd a b) (hN : xa_N cc o P I A h0 next) : xa_P P I A h0 pc L st M := by
  intro h Ls sts hH hL hS
  obtain ⟨ps, hlk⟩ := hlk
  unfold xa_q34 at e
  split at e
  next as rest e1 =>
    split at e
    next u rest =>
      split at e
      next q ro S e2 =>
        split at e
        next Q e3 =>
          obtain ⟨h1, h2⟩ := xa_if_eq e
          simp only [Bool.and_eq_true, Bool.or_eq_true, Nat.beq_eq, Nat.ble_eq, Bool.not_eq_true'] at h1
          obtain ⟨hkd, hc1, hc2, hck⟩ := h1
          obtain ⟨xs, sr, hs, hl, ha, hr⟩ := xa_args_g hS e1
          obtain ⟨y, ys, rfl, hg, hr2⟩ := xa_gS_cons hr
          obtain ⟨hI, f, rfl, hget, hf⟩ := xa_ro_ok e2 hg hH
          have hm := hmi _ _ e3
          rw [hc1, hc2, ← hm.2.2.2.2] at hget
          refine hcl _ ⟨_, _, hd, Or.inr (Or.inr (Or.inr (Or.inr (Or.inl ⟨i, kd, _, b, v0, ps, xs, _, ys, q, _, f, 0, 0, rfl, rfl, hkd, hlk, hs, hl, hget, by rw [xa_sum_g hr2]; exact hck, Nat.zero_le _, Nat.zero_le _, ?_⟩))))⟩
          exact hC _ _ _ _ h2 h (.ref (A q) :: xs) hH ⟨hg, ha⟩ _ (fun v M' x h' hn hx hH' => xa_N1 hN hIt hn hgo hH' hL (xa_rst_ok hx hr2))
        next => exact e.elim
      next => exact e.elim
    next => exact e.elim
  next => exact e.elim
theorem xa_do_ok (hcl : ∀ S, g_pre CALL o nL ini bc bs cc P S → P S) {ft : s_FT} (hft : s_ftok ft) (hmi : s_miok mi) (hC : xa_CS I A h0 C CALL) (hfull : ∀ r ∈ full, s_okI cc o r = true) {pc len q kd a k : Nat} {v : Int} {ins : Instr} (hq : q < 40) (hI : s_okI cc o (pc, len, q, kd, a, k, v, ins) = true) (hIt : ∀ r ∈ t, s_okI cc o r = true) (e : xa_do I ft mi C full nL next (pc, len, q, kd, a, k, v, ins) t L st M) (hN : xa_N cc o P I A h0 next) : xa_P P I A h0 pc L st M := by
  obtain ⟨⟨n, hd, hlen, hne⟩, hQ, hlk⟩ := s_okI_eq hI (by omega)
  replace hlk := hlk hq
  clear hI
  have hgo1 : s_go (pc, len, q, kd, a, k, v, ins) t = true → q ≠ 25 → s_pc t = pc + s_len ins := fun hg h25 => by rw [← hne h25, ← hlen]; exact s_go_eq hg
  have hd1 : q ≠ 25 → decode cc pc = .ok (ins, s_len ins) := fun h25 => by rw [← hne h25]; exact hd
  match q, hq, e, hne, hQ, hgo1, hd1 with
  | 0, _, e, _, hQ, hgo1, hd1 =>
    obtain ⟨hg, h1⟩ := xa_if_eq (show xa_if (s_go (pc, len, 0, kd, a, k, v, ins) t) (xa_q0 next t L st M a v) from e)
    exact xa_q0_ok hcl (hd1 (by decide)) (hgo1 hg (by decide)) (of_decide_eq_true hQ) hIt h1 hN
  | 1, _, e, _, hQ, hgo1, hd1 =>
    obtain ⟨hg, h1⟩ := xa_if_eq (show xa_if (s_go (pc, len, 1, kd, a, k, v, ins) t) (xa_q1 next t L st M a k) from e)
    exact xa_q1_ok hcl (hd1 (by decide)) (hgo1 hg (by decide)) (of_decide_eq_true hQ) hIt h1 hN
  | 2, _, e, _, hQ, hgo1, hd1 =>
    obtain ⟨hg, h1⟩ := xa_if_eq (show xa_if (s_go (pc, len, 2, kd, a, k, v, ins) t) (xa_q2 nL next t L st M a k) from e)
    exact xa_q2_ok hcl (hd1 (by decide)) (hgo1 hg (by decide)) (of_decide_eq_true hQ) hIt h1 hN
  | 3, _, e, _, hQ, hgo1, hd1 =>
    obtain ⟨hg, h1⟩ := xa_if_eq (show xa_if (s_go (pc, len, 3, kd, a, k, v, ins) t) (xa_q3 nL next t L st M a k) from e)
    exact xa_q3_ok hcl (hd1 (by decide)) (hgo1 hg (by decide)) (of_decide_eq_true hQ) hIt h1 hN
  | 4, _, e, _, hQ, hgo1, hd1 =>
    obtain ⟨hg, h1⟩ := xa_if_eq (show xa_if (s_go (pc, len, 4, kd, a, k, v, ins) t) (xa_q4 nL next t L st M a v) from e)
    have hi := of_decide_eq_true hQ
    subst hi
    exact xa_q4_ok hcl (hd1 (by decide)) (hgo1 hg (by decide)) hIt h1 hN
  | 5, _, e, _, hQ, hgo1, hd1 =>
    obtain ⟨hg, h1⟩ := xa_if_eq (show xa_if (s_go (pc, len, 5, kd, a, k, v, ins) t) (xa_q5 next t L st M) from e)
    have hi := of_decide_eq_true hQ
    subst hi
    exact xa_q5_ok hcl (hd1 (by decide)) (hgo1 hg (by decide)) hIt h1 hN
  | 6, _, e, _, hQ, hgo1, hd1 =>
    obtain ⟨hg, h1⟩ := xa_if_eq (show xa_if (s_go (pc, len, 6, kd, a, k, v, ins) t) (xa_q6 next t L st M) from e)
    have hi := of_decide_eq_true hQ
    subst hi
    exact xa_q6_ok hcl (hd1 (by decide)) (hgo1 hg (by decide)) hIt h1 hN
  | 7, _, e, _, hQ, hgo1, hd1 =>
    obtain ⟨hg, h1⟩ := xa_if_eq (show xa_if (s_go (pc, len, 7, kd, a, k, v, ins) t) (xa_q7 next t L st M) from e)
    have hi := of_decide_eq_true hQ
    subst hi
    exact xa_q7_ok hcl (hd1 (by decide)) (hgo1 hg (by decide)) hIt h1 hN
  | 8, _, e, _, hQ, hgo1, hd1 =>
    obtain ⟨hg, h1⟩ := xa_if_eq (show xa_if (s_go (pc, len, 8, kd, a, k, v, ins) t) (xa_q8 next t L st M) from e)
    have hi := of_decide_eq_true hQ
    subst hi
    exact xa_q8_ok hcl (hd1 (by decide)) (hgo1 hg (by decide)) hIt h1 hN
  | 9, _, e, _, hQ, hgo1, hd1 =>
    obtain ⟨hg, h1⟩ := xa_if_eq (show xa_if (s_go (pc, len, 9, kd, a, k, v, ins) t) (xa_if (Nat.beq kd 10 && y_in32 v v) (next t L ((0, 0, v, v, v) :: st) M)) from e)
    obtain ⟨h2, h3⟩ := xa_if_eq h1
    rw [Bool.and_eq_true, Nat.beq_eq] at h2
    obtain ⟨rfl, h2⟩ := h2
    have hQ' : ∃ i, ins = .ldc i ∨ ins = .ldc_w i := by
      clear hgo1 hd1 hlk hd
      revert hQ
      cases ins <;> intro hQ <;> first | exact ⟨_, Or.inl rfl⟩ | exact ⟨_, Or.inr rfl⟩ | cases hQ
    obtain ⟨i, hi⟩ := hQ'
    obtain ⟨ps, hm⟩ := hlk i (by rcases hi with rfl | rfl <;> rfl)
    have hldc : g_ldc ins = some (i, s_len ins, 10) := by rcases hi with rfl | rfl <;> rfl
    intro h Ls sts hH hL hS
    exact hcl _ ⟨_, _, hd1 (by decide), Or.inl (Or.inr (Or.inr (Or.inr (Or.inr (Or.inr (Or.inr (Or.inr (Or.inr (Or.inr (Or.inr (Or.inl ⟨i, 10, a, k, v, ps, hldc, hm, xa_N1 hN hIt h3 (hgo1 hg (by decide)) hH hL ⟨xa_in32_g h2, hS⟩⟩)))))))))))⟩
  | 10, _, e, _, hQ, hgo1, hd1 =>
    obtain ⟨hg, h1⟩ := xa_if_eq (show xa_if (s_go (pc, len, 10, kd, a, k, v, ins) t) (xa_if (Nat.beq kd 11 && y_in64 v v) (next t L ((1, 0, v, v, v) :: st) M)) from e)
    obtain ⟨h2, h3⟩ := xa_if_eq h1
    rw [Bool.and_eq_true, Nat.beq_eq] at h2
    obtain ⟨rfl, h2⟩ := h2
    have hQ' : ∃ i, ins = .ldc2_w i := by
      clear hgo1 hd1 hlk hd
      revert hQ
      cases ins <;> intro hQ <;> first | exact ⟨_, rfl⟩ | cases hQ
    obtain ⟨i, rfl⟩ := hQ'
    obtain ⟨ps, hm⟩ := hlk i rfl
    intro h Ls sts hH hL hS
    exact hcl _ ⟨_, _, hd1 (by decide), Or.inl (Or.inr (Or.inr (Or.inr (Or.inr (Or.inr (Or.inr (Or.inr (Or.inr (Or.inr (Or.inr (Or.inr ⟨i, 11, a, k, v, ps, rfl, rfl, Or.inl rfl, hm, xa_N1 hN hIt h3 (hgo1 hg (by decide)) hH hL ⟨xa_in64_g h2, hS⟩⟩)))))))))))⟩
  | 11, _, e, _, hQ, hgo1, hd1 =>
    obtain ⟨hg, h1⟩ := xa_if_eq (show xa_if (s_go (pc, len, 11, kd, a, k, v, ins) t) (xa_q11 next t L st M a) from e)
    exact xa_q11_ok hcl (of_decide_eq_true hQ) (hd1 (by decide)) (hgo1 hg (by decide)) hIt h1 hN
  | 12, _, e, _, hQ, hgo1, hd1 =>
    obtain ⟨hg, h1⟩ := xa_if_eq (show xa_if (s_go (pc, len, 12, kd, a, k, v, ins) t) (xa_q12 next t L st M a) from e)
    exact xa_q12_ok hcl (of_decide_eq_true hQ) (hd1 (by decide)) (hgo1 hg (by decide)) hIt h1 hN
  | 13, _, e, _, hQ, hgo1, hd1 =>
    obtain ⟨hg, h1⟩ := xa_if_eq (show xa_if (s_go (pc, len, 13, kd, a, k, v, ins) t) (xa_q13 next t L st M a) from e)
    exact xa_q13_ok hcl (of_decide_eq_true hQ) (hd1 (by decide)) (hgo1 hg (by decide)) hIt h1 hN
  | 14, _, e, _, hQ, hgo1, hd1 =>
    obtain ⟨hg, h1⟩ := xa_if_eq (show xa_if (s_go (pc, len, 14, kd, a, k, v, ins) t) (xa_q14 next t L st M a) from e)
    exact xa_q14_ok hcl (of_decide_eq_true hQ) (hd1 (by decide)) (hgo1 hg (by decide)) hIt h1 hN
  | 15, _, e, _, hQ, hgo1, hd1 =>
    obtain ⟨hg, h1⟩ := xa_if_eq (show xa_if (s_go (pc, len, 15, kd, a, k, v, ins) t) (xa_q15 next t L st M a) from e)
    exact xa_q15_ok hcl (of_decide_eq_true hQ) (hd1 (by decide)) (hgo1 hg (by decide)) hIt h1 hN
  | 16, _, e, _, hQ, hgo1, hd1 =>
    obtain ⟨hg, h1⟩ := xa_if_eq (show xa_if (s_go (pc, len, 16, kd, a, k, v, ins) t) (xa_q16 next t L st M) from e)
    have hi := of_decide_eq_true hQ
    subst hi
    exact xa_q16_ok hcl (hd1 (by decide)) (hgo1 hg (by decide)) hIt h1 hN
  | 17, _, e, _, hQ, hgo1, hd1 =>
    obtain ⟨hg, h1⟩ := xa_if_eq (show xa_if (s_go (pc, len, 17, kd, a, k, v, ins) t) (xa_q17 next t L st M) from e)
    have hi := of_decide_eq_true hQ
    subst hi
    exact xa_q17_ok hcl (hd1 (by decide)) (hgo1 hg (by decide)) hIt h1 hN
  | 18, _, e, _, hQ, hgo1, hd1 =>
    obtain ⟨hg, h1⟩ := xa_if_eq (show xa_if (s_go (pc, len, 18, kd, a, k, v, ins) t) (xa_q18 next t L st M) from e)
    have hi := of_decide_eq_true hQ
    subst hi
    exact xa_q18_ok hcl (hd1 (by decide)) (hgo1 hg (by decide)) hIt h1 hN
  | 19, _, e, _, hQ, hgo1, hd1 =>
    obtain ⟨hg, h1⟩ := xa_if_eq (show xa_if (s_go (pc, len, 19, kd, a, k, v, ins) t) (xa_q19 full next t L st M) from e)
    have hi := of_decide_eq_true hQ
    subst hi
    exact xa_q19_ok hcl hfull (hd1 (by decide)) (hgo1 hg (by decide)) hIt h1 hN
  | 20, _, e, hne, hQ, hgo1, hd1 =>
    have h1 : xa_jp full next a L st M := e
    have hQ' : ∃ off, ins = .goto off ∧ (pc : Int) + off = (a : Int) := by
      clear e h1 hd hne hlk hgo1 hd1
      revert hQ
      cases ins <;> intro hQ <;> first | exact ⟨_, rfl, of_decide_eq_true hQ⟩ | cases hQ
    obtain ⟨off, rfl, hoff⟩ := hQ'
    exact xa_q20_ok hcl hfull (hd1 (by decide)) hoff h1 hN
  | 21, _, e, hne, hQ, hgo1, hd1 =>
    have h1 : xa_q21 full next (pc, len, 21, kd, a, k, v, ins) t L st M a k := e
    have hQ' : ∃ cd off, ins = .ifCond cd off ∧ (pc : Int) + off = (a : Int) ∧ s_cdn cd = k := by
      clear e h1 hd hne hlk hgo1 hd1
      revert hQ
      cases ins <;> intro hQ <;> first | exact ⟨_, _, rfl, of_decide_eq_true ((Bool.and_eq_true _ _).mp hQ).1, Nat.beq_eq.mp ((Bool.and_eq_true _ _).mp hQ).2⟩ | cases hQ
    obtain ⟨cd, off, hi, hoff, hcd⟩ := hQ'
    have hn := hne (by decide)
    rw [hi] at hd hn h1
    rw [hn] at hd hlen
    rw [← hcd] at h1
    exact xa_q21_ok (r := (pc, len, 21, kd, a, s_cdn cd, v, .ifCond cd off)) hcl hfull hIt hd hlen hoff h1 hN
  | 22, _, e, hne, hQ, hgo1, hd1 =>
    have h1 : xa_q22 full next (pc, len, 22, kd, a, k, v, ins) t L st M a k := e
    have hQ' : ∃ cd off, ins = .if_icmp cd off ∧ (pc : Int) + off = (a : Int) ∧ s_cdn cd = k := by
      clear e h1 hd hne hlk hgo1 hd1
      revert hQ
      cases ins <;> intro hQ <;> first | exact ⟨_, _, rfl, of_decide_eq_true ((Bool.and_eq_true _ _).mp hQ).1, Nat.beq_eq.mp ((Bool.and_eq_true _ _).mp hQ).2⟩ | cases hQ
    obtain ⟨cd, off, hi, hoff, hcd⟩ := hQ'
    have hn := hne (by decide)
    rw [hi] at hd hn h1
    rw [hn] at hd hlen
    rw [← hcd] at h1
    exact xa_q22_ok (r := (pc, len, 22, kd, a, s_cdn cd, v, .if_icmp cd off)) hcl hfull hIt hd hlen hoff h1 hN
  | 23, _, e, hne, hQ, hgo1, hd1 =>
    have h1 : xa_q23 full next (pc, len, 23, kd, a, k, v, ins) t L st M a false := e
    have hQ' : ∃ off, ins = .ifnull off ∧ (pc : Int) + off = (a : Int) := by
      clear e h1 hd hne hlk hgo1 hd1
      revert hQ
      cases ins <;> intro hQ <;> first | exact ⟨_, rfl, of_decide_eq_true hQ⟩ | cases hQ
    obtain ⟨off, hi, hoff⟩ := hQ'
    have hn := hne (by decide)
    rw [hi] at hd hn h1
    rw [hn] at hd hlen
    exact xa_q23_ok (r := (pc, len, 23, kd, a, k, v, .ifnull off)) (nn := false) hcl hfull hIt hd hlen hoff h1 hN
  | 24, _, e, hne, hQ, hgo1, hd1 =>
    have h1 : xa_q23 full next (pc, len, 24, kd, a, k, v, ins) t L st M a true := e
    have hQ' : ∃ off, ins = .ifnonnull off ∧ (pc : Int) + off = (a : Int) := by
      clear e h1 hd hne hlk hgo1 hd1
      revert hQ
      cases ins <;> intro hQ <;> first | exact ⟨_, rfl, of_decide_eq_true hQ⟩ | cases hQ
    obtain ⟨off, hi, hoff⟩ := hQ'
    have hn := hne (by decide)
    rw [hi] at hd hn h1
    rw [hn] at hd hlen
    exact xa_q23_ok (r := (pc, len, 24, kd, a, k, v, .ifnonnull off)) (nn := true) hcl hfull hIt hd hlen hoff h1 hN
  | 25, _, e, _, hQ, _, _ => exact xa_q25_ok hcl hfull hd (show xa_q25 full next pc L st M ins from e) hN
  | 26, _, e, _, hQ, hgo1, hd1 =>
    obtain ⟨hg, h1⟩ := xa_if_eq (show xa_if (s_go (pc, len, 26, kd, a, k, v, ins) t) (xa_q26 I next t L st M kd a k) from e)
    have hQ' : ∃ i, ins = .getfield i := by
      clear hgo1 hd1 hlk hd
      revert hQ
      cases ins <;> intro hQ <;> first | exact ⟨_, rfl⟩ | cases hQ
    obtain ⟨i, rfl⟩ := hQ'
    exact xa_q26_ok hcl (hd1 (by decide)) (hgo1 hg (by decide)) (hlk i rfl) hIt h1 hN
  | 27, _, e, _, hQ, hgo1, hd1 =>
    obtain ⟨hg, h1⟩ := xa_if_eq (show xa_if (s_go (pc, len, 27, kd, a, k, v, ins) t) (xa_q27 I ft next t L st M kd a k) from e)
    have hQ' : ∃ i, ins = .putfield i := by
      clear hgo1 hd1 hlk hd
      revert hQ
      cases ins <;> intro hQ <;> first | exact ⟨_, rfl⟩ | cases hQ
    obtain ⟨i, rfl⟩ := hQ'
    exact xa_q27_ok hcl hft (hd1 (by decide)) (hgo1 hg (by decide)) (hlk i rfl) hIt h1 hN
  | 28, _, e, _, hQ, hgo1, hd1 =>
    obtain ⟨hg, h1⟩ := xa_if_eq (show xa_if (s_go (pc, len, 28, kd, a, k, v, ins) t) (xa_q28 I next t L st M) from e)
    have hi := of_decide_eq_true hQ
    subst hi
    exact xa_q28_ok hcl (hd1 (by decide)) (hgo1 hg (by decide)) hIt h1 hN
  | 29, _, e, _, _, _, _ => exact (xa_if_eq (show xa_if (s_go (pc, len, 29, kd, a, k, v, ins) t) False from e)).2.elim
  | 30, _, e, _, _, _, _ => exact (xa_if_eq (show xa_if (s_go (pc, len, 30, kd, a, k, v, ins) t) False from e)).2.elim
  | 31, _, e, _, _, _, _ => exact (xa_if_eq (show xa_if (s_go (pc, len, 31, kd, a, k, v, ins) t) False from e)).2.elim
  | 32, _, e, _, hQ, hgo1, hd1 =>
    obtain ⟨hg, h1⟩ := xa_if_eq (show xa_if (s_go (pc, len, 32, kd, a, k, v, ins) t) (xa_q32 I next t L st M a) from e)
    have hQ1 : (Nat.beq (s_aln ins) a && Nat.blt a 4) = true := hQ
    rw [Bool.and_eq_true, Nat.beq_eq, Nat.blt_eq] at hQ1
    have hl1 : s_len ins = 1 := by
      rcases s_al_i hQ1.1 hQ1.2 with ⟨-, rfl⟩ | ⟨-, rfl⟩ | ⟨-, rfl⟩ | ⟨-, rfl⟩ <;> rfl
    have hd' := hd1 (by decide)
    have hgo := hgo1 hg (by decide)
    rw [hl1] at hd' hgo
    exact xa_q32_ok hcl hQ1.1 hQ1.2 hd' hgo hIt h1 hN
  | 33, _, e, _, hQ, hgo1, hd1 =>
    obtain ⟨hg, h1⟩ := xa_if_eq (show xa_if (s_go (pc, len, 33, kd, a, k, v, ins) t) (xa_q33 I next t L st M a) from e)
    have hQ1 : (Nat.beq (s_asn ins) a && Nat.blt a 4) = true := hQ
    rw [Bool.and_eq_true, Nat.beq_eq, Nat.blt_eq] at hQ1
    have hl1 : s_len ins = 1 := by
      rcases s_as_i hQ1.1 hQ1.2 with ⟨-, rfl⟩ | ⟨-, rfl⟩ | ⟨-, rfl⟩ | ⟨-, rfl⟩ <;> rfl
    have hd' := hd1 (by decide)
    have hgo := hgo1 hg (by decide)
    rw [hl1] at hd' hgo
    exact xa_q33_ok hcl hQ1.1 hQ1.2 hd' hgo hIt h1 hN
  | 34, _, e, _, hQ, hgo1, hd1 =>
    obtain ⟨hg, h1⟩ := xa_if_eq (show xa_if (s_go (pc, len, 34, kd, a, k, v, ins) t) (xa_q34 I mi C next t L st M kd a k) from e)
    have hQ' : ∃ i, ins = .invokevirtual i := by
      clear hgo1 hd1 hlk hd
      revert hQ
      cases ins <;> intro hQ <;> first | exact ⟨_, rfl⟩ | cases hQ
    obtain ⟨i, rfl⟩ := hQ'
    exact xa_q34_ok hcl hmi hC (hd1 (by decide)) (hgo1 hg (by decide)) (hlk i rfl) hIt h1 hN
  | 35, _, e, _, hQ, hgo1, hd1 =>
    obtain ⟨hg, h1⟩ := xa_if_eq (show xa_if (s_go (pc, len, 35, kd, a, k, v, ins) t) (xa_q35 C next t L st M kd a k) from e)
    have hQ' : ∃ i, ins = .invokestatic i := by
      clear hgo1 hd1 hlk hd
      revert hQ
      cases ins <;> intro hQ <;> first | exact ⟨_, rfl⟩ | cases hQ
    obtain ⟨i, rfl⟩ := hQ'
    exact xa_q35_ok hcl hC (hd1 (by decide)) (hgo1 hg (by decide)) (hlk i rfl) hIt h1 hN
  | 36, _, e, _, _, _, _ => exact (xa_if_eq (show xa_if (s_go (pc, len, 36, kd, a, k, v, ins) t) False from e)).2.elim
  | 37, _, e, _, _, _, _ => exact (xa_if_eq (show xa_if (s_go (pc, len, 37, kd, a, k, v, ins) t) False from e)).2.elim
  | 38, _, e, _, _, _, _ => exact (xa_if_eq (show xa_if (s_go (pc, len, 38, kd, a, k, v, ins) t) False from e)).2.elim
  | 39, _, e, _, _, _, _ => exact (xa_if_eq (show xa_if (s_go (pc, len, 39, kd, a, k, v, ins) t) False from e)).2.elim
  | n + 40, hq, _, _, _, _, _ => exact absurd hq (by omega)
/-- an end is the machine's -/
theorem xa_rt_ok {rt : Nat} {rtT : Option FieldType} {RT : Option xa_V → xa_M → Prop} {post : Option Value → g_H → Prop} (hrt : s_rtok rt rtT) (hend : ∀ S, g_end cc rtT 0 0 post S → P S) (hpost : ∀ v M x h, RT v M → xa_gR A v x → xa_H I A M h0 h → post x h) {pc len q kd a k : Nat} {v : Int} {ins : Instr} (hq : 40 ≤ q) (hI : s_okI cc o (pc, len, q, kd, a, k, v, ins) = true) (e : xa_rt rt q RT st M) : xa_P P I A h0 pc L st M := by
  intro h Ls sts hH hL hS
  have key : q < 44 → decode cc pc = .ok (ins, s_len ins) ∧ s_okQ pc q a k v ins = true := fun h44 => by
    obtain ⟨⟨n, hd, hlen, hne⟩, hQ, hlk⟩ := s_okI_eq hI h44
    rw [hne (by omega)] at hd
    exact ⟨hd, hQ⟩
  unfold xa_rt at e
  split at e
  next =>
    obtain ⟨h1, h2⟩ := xa_if_eq e
    rw [Bool.and_eq_true, Nat.beq_eq, Nat.beq_eq] at h1
    obtain ⟨rfl, rfl⟩ := h1
    obtain ⟨hd, hQ⟩ := key (by decide)
    have hi := of_decide_eq_true (show decide (ins = .return_) = true from hQ)
    subst hi
    cases sts with
    | nil => exact hend _ ⟨Nat.le_refl _, Nat.le_refl _, Or.inr (Or.inr (Or.inr ⟨hd, hrt, rfl, hpost _ _ _ _ h2 rfl hH⟩))⟩
    | cons _ _ => exact hS.elim
  next v1 =>
    obtain ⟨x, xs, rfl, hg, hS'⟩ := xa_gS_cons hS
    have hxs : xs = [] := by
      cases xs with
      | nil => rfl
      | cons _ _ => exact hS'.elim
    subst hxs
    cases e1 : (Nat.beq q 40 && Nat.beq v1.1 0)
    · rw [e1, cond_false] at e
      cases e2 : (Nat.beq q 41 && (Nat.beq rt 3 && Nat.beq v1.1 1))
      · rw [e2, cond_false] at e
        obtain ⟨h1, h2⟩ := xa_if_eq e
        simp only [Bool.and_eq_true, Nat.beq_eq, Nat.ble_eq] at h1
        obtain ⟨rfl, rfl, hk⟩ := h1
        obtain ⟨hd, hQ⟩ := key (by decide)
        have hi := of_decide_eq_true (show decide (ins = .areturn) = true from hQ)
        subst hi
        have hkk : xa_tk 2 v1 = true := by
          show (Nat.ble 2 v1.1 && Nat.ble v1.1 4) = true
          rw [Bool.and_eq_true, Nat.ble_eq, Nat.ble_eq]
          exact hk
        obtain ⟨n, hn⟩ := hrt
        exact hend _ ⟨Nat.le_refl _, Nat.le_refl _, Or.inr (Or.inr (Or.inl ⟨x, n, hd, hn, (xa_tk_g hkk hg).2.2 (Nat.le_refl _), rfl, hpost _ _ _ _ h2 ⟨x, rfl, hg⟩ hH⟩))⟩
      · rw [e2, cond_true] at e
        simp only [Bool.and_eq_true, Nat.beq_eq] at e2
        obtain ⟨rfl, rfl, hk⟩ := e2
        obtain ⟨hd, hQ⟩ := key (by decide)
        have hi := of_decide_eq_true (show decide (ins = .lreturn) = true from hQ)
        subst hi
        obtain ⟨m, rfl, -⟩ := xa_isL_g (Nat.beq_eq.mpr hk) hg
        exact hend _ ⟨Nat.le_refl _, Nat.le_refl _, Or.inr (Or.inl ⟨m, hd, hrt, rfl, hpost _ _ _ _ e ⟨_, rfl, hg⟩ hH⟩)⟩
    · rw [e1, cond_true] at e
      simp only [Bool.and_eq_true, Nat.beq_eq] at e1
      obtain ⟨rfl, hk⟩ := e1
      obtain ⟨hd, hQ⟩ := key (by decide)
      have hi := of_decide_eq_true (show decide (ins = .ireturn) = true from hQ)
      subst hi
      obtain ⟨m, rfl, m1, m2, m3⟩ := xa_isI_g (Nat.beq_eq.mpr hk) hg
      cases e3 : Nat.beq rt 1
      · rw [e3, cond_false] at e
        obtain ⟨h1, h2⟩ := xa_if_eq e
        rw [Nat.beq_eq] at h1
        subst h1
        obtain ⟨hb, h3⟩ := xa_ob_eq (xa_bd_ok ⟨m2, m3⟩) h2
        have h0 : (0 : Int32).toInt = 0 := rfl
        have h1 : (1 : Int32).toInt = 1 := rfl
        have hx : m = 0 ∨ m = 1 := by
          rcases (show m.toInt = 0 ∨ m.toInt = 1 by omega) with h | h
          · exact Or.inl (Int32.toInt_inj.mp (h.trans h0.symm))
          · exact Or.inr (Int32.toInt_inj.mp (h.trans h1.symm))
        have hrt' : rtT = some .boolean := hrt
        exact hend _ ⟨Nat.le_refl _, Nat.le_refl _, Or.inl ⟨m, .boolean, hd, hrt', by rcases hx with rfl | rfl <;> rfl, rfl, hpost _ _ _ _ h3 ⟨_, rfl, hg⟩ hH⟩⟩
      · rw [e3, cond_true] at e
        rw [Nat.beq_eq] at e3
        subst e3
        have hrt' : rtT = some .int := hrt
        exact hend _ ⟨Nat.le_refl _, Nat.le_refl _, Or.inl ⟨m, .int, hd, hrt', rfl, rfl, hpost _ _ _ _ e ⟨_, rfl, hg⟩ hH⟩⟩
  next => exact e.elim
theorem xa_wp_ok (hcl : ∀ S, g_pre CALL o nL ini bc bs cc P S → P S) {ft : s_FT} (hft : s_ftok ft) (hmi : s_miok mi) (hC : xa_CS I A h0 C CALL) (hfull : ∀ r ∈ full, s_okI cc o r = true) {rt : Nat} {rtT : Option FieldType} {RT : Option xa_V → xa_M → Prop} {post : Option Value → g_H → Prop} (hrt : s_rtok rt rtT) (hend : ∀ S, g_end cc rtT 0 0 post S → P S) (hpost : ∀ v M x h, RT v M → xa_gR A v x → xa_H I A M h0 h → post x h) {cuts : List Nat} :
    ∀ (n : Nat), xa_N cc o P I A h0 (xa_wp I ft mi C RT (xa_P P I A h0) cuts full nL rt n) := by
  intro n
  induction n with
  | zero => exact fun c L st M _ e => e.elim
  | succ n ih =>
    intro c L st M hc e
    cases c with
    | nil => exact e.elim
    | cons r t =>
      obtain ⟨pc, len, q, kd, a, k, v, ins⟩ := r
      have hI := hc _ List.mem_cons_self
      have hIt : ∀ r ∈ t, s_okI cc o r = true := fun r hr => hc r (List.mem_cons_of_mem _ hr)
      rw [xa_wp] at e
      dsimp only at e
      cases e1 : Nat.ble 40 q
      · rw [e1, cond_false] at e
        have hq : q < 40 := Nat.lt_of_not_le (fun h => by rw [Nat.ble_eq_true_of_le h] at e1; cases e1)
        refine xa_do_ok hcl hft hmi hC hfull hq hI hIt e (fun c L st M hc e => ?_)
        cases e2 : y_isn (s_pc c) cuts
        · rw [e2, cond_false] at e
          exact ih c L st M hc e
        · rw [e2, cond_true] at e
          exact e
      · rw [e1, cond_true] at e
        exact xa_rt_ok hrt hend hpost (Nat.le_of_ble_eq_true e1) hI e
end XA4
/-- the arguments in the locals -/
def xa_args : Nat → List xa_V → xa_L
  | _, [] => []
  | i, v :: vs => (i, v) :: xa_args (bif xa_c2 v then i + 2 else i + 1) vs
theorem xa_args_ok {A : Nat → Nat} : ∀ {vs : List xa_V} {xs : List Value} {i : Nat}, xa_gS A vs xs → xa_gL A (xa_args i vs) (lv_args i xs)
  | [], _, _, _ => fun q hq => by cases hq
  | _ :: _, [], _, h => h.elim
  | v :: vs, x :: xs, i, h => by
    intro q hq
    have hc := xa_cat h.1
    rcases List.mem_cons.mp hq with rfl | hq
    · exact ⟨x, List.mem_cons_self, h.1⟩
    · have hi : (bif xa_c2 v then i + 2 else i + 1) = (if x.category = 2 then i + 2 else i + 1) := by
        rw [hc]
        cases xa_c2 v <;> rfl
      rw [hi] at hq
      obtain ⟨y, h1, h2⟩ := xa_args_ok h.2 q hq
      exact ⟨y, List.mem_cons_of_mem _ h1, h2⟩
/-- what a local may be told as: the same number, other bounds -/
def xa_vle (v w : xa_V) : Prop := match w with
  | (0, _, lo, hi, n) => v.1 = 0 ∧ v.2.2.2.2 = n ∧ (-2147483648 ≤ n → n ≤ 2147483647 → v.2.2.1 ≤ n → n ≤ v.2.2.2.1 → lo ≤ n ∧ n ≤ hi)
  | (1, _, lo, hi, n) => v.1 = 1 ∧ v.2.2.2.2 = n ∧ (-9223372036854775808 ≤ n → n ≤ 9223372036854775807 → v.2.2.1 ≤ n → n ≤ v.2.2.2.1 → lo ≤ n ∧ n ≤ hi)
  | (2, q, _) => v.1 = 2 ∧ v.2.1 = q
  | _ => v = w
def xa_sub (L' L : xa_L) : Prop := match L' with
  | [] => True
  | (i, w) :: t => (match xa_find L i with
    | some v => xa_vle v w
    | none => False) ∧ xa_sub t L
section XA5
variable {A : Nat → Nat} {x : Value} {v w : xa_V} {L : xa_L} {Ls : g_L}
theorem xa_vle_ok (e : xa_vle v w) (h : xa_g A v x) : xa_g A w x := by
  obtain ⟨g, p, lo, hi, n⟩ := v
  obtain ⟨g2, p2, lo2, hi2, n2⟩ := w
  match g2, e with
  | 0, ⟨h1, h2, h3⟩ =>
    have h1' : g = 0 := h1
    have h2' : n = n2 := h2
    subst h1' h2'
    obtain ⟨m, m1, m2, m3, m4⟩ := h
    have r1 := Int32.le_toInt m
    have r2 := Int32.toInt_lt m
    have := h3 (by omega) (by omega) m3 m4
    exact ⟨m, m1, m2, this.1, this.2⟩
  | 1, ⟨h1, h2, h3⟩ =>
    have h1' : g = 1 := h1
    have h2' : n = n2 := h2
    subst h1' h2'
    obtain ⟨m, m1, m2, m3, m4⟩ := h
    have r1 := Int64.le_toInt m
    have r2 := Int64.toInt_lt m
    have := h3 (by omega) (by omega) m3 m4
    exact ⟨m, m1, m2, this.1, this.2⟩
  | 2, ⟨h1, h2⟩ =>
    have h1' : g = 2 := h1
    have h2' : p = p2 := h2
    subst h1' h2'
    exact h
  | _ + 3, e =>
    have e' : ((g, p, lo, hi, n) : xa_V) = _ := e
    rw [← e']
    exact h
theorem xa_sub_ok : ∀ {L' : xa_L}, xa_sub L' L → xa_gL A L Ls → xa_gL A L' Ls
  | [], _, _ => fun q hq => by cases hq
  | (i, w) :: t, e, hL => by
    intro q hq
    rcases List.mem_cons.mp hq with rfl | hq
    · have e1 := e.1
      split at e1
      next v ev =>
        obtain ⟨x, hx, hg⟩ := hL _ (xa_find_in ev)
        exact ⟨x, hx, xa_vle_ok e1 hg⟩
      next => exact e1.elim
    · exact xa_sub_ok e.2 hL q hq
end XA5
theorem xa_sub0 {L : xa_L} : xa_sub [] L := trivial
theorem xa_subI {L L' : xa_L} {i p p0 : Nat} {lo hi lo0 hi0 n n0 : Int} (e : xa_find L i = some (0, p0, lo0, hi0, n0)) (en : n0 = n) (h : -2147483648 ≤ n → n ≤ 2147483647 → lo0 ≤ n → n ≤ hi0 → lo ≤ n ∧ n ≤ hi) (t : xa_sub L' L) : xa_sub ((i, (0, p, lo, hi, n)) :: L') L := by
  refine ⟨?_, t⟩
  rw [e]
  exact ⟨rfl, en, h⟩
theorem xa_subL {L L' : xa_L} {i p p0 : Nat} {lo hi lo0 hi0 n n0 : Int} (e : xa_find L i = some (1, p0, lo0, hi0, n0)) (en : n0 = n) (h : -9223372036854775808 ≤ n → n ≤ 9223372036854775807 → lo0 ≤ n → n ≤ hi0 → lo ≤ n ∧ n ≤ hi) (t : xa_sub L' L) : xa_sub ((i, (1, p, lo, hi, n)) :: L') L := by
  refine ⟨?_, t⟩
  rw [e]
  exact ⟨rfl, en, h⟩
theorem xa_subR {L L' : xa_L} {i q : Nat} {a b c a0 b0 c0 : Int} (e : xa_find L i = some (2, q, a0, b0, c0)) (t : xa_sub L' L) : xa_sub ((i, (2, q, a, b, c)) :: L') L := by
  refine ⟨?_, t⟩
  rw [e]
  exact ⟨rfl, rfl⟩
/-- arguments, told by other bounds -/
def xa_subV : List xa_V → List xa_V → Prop
  | [], [] => True
  | v :: vs, w :: ws => xa_vle v w ∧ xa_subV vs ws
  | _, _ => False
theorem xa_subV_ok {A : Nat → Nat} : ∀ {vs ws : List xa_V} {xs : List Value}, xa_subV vs ws → xa_gS A vs xs → xa_gS A ws xs
  | [], [], _, _, h => h
  | [], _ :: _, _, e, _ => e.elim
  | _ :: _, [], _, e, _ => e.elim
  | _ :: _, _ :: _, [], _, h => h.elim
  | v :: vs, w :: ws, x :: xs, e, h => ⟨xa_vle_ok e.1 h.1, xa_subV_ok e.2 h.2⟩
theorem xa_C_arg {I : xa_I} {A : Nat → Nat} {h0 : g_H} {d j : Nat} {vs : List xa_V} (ws : List xa_V) {M : xa_M} {post : Option xa_V → xa_M → Prop} (e : xa_subV vs ws) (k : xa_C I A h0 d j ws M post) : xa_C I A h0 d j vs M post := fun h xs hH hA post' hp => k h xs hH (xa_subV_ok e hA) post' hp
theorem xa_sv0 : xa_subV [] [] := trivial
theorem xa_svI {vs ws : List xa_V} {p p0 : Nat} {lo hi lo0 hi0 n : Int} (h : -2147483648 ≤ n → n ≤ 2147483647 → lo0 ≤ n → n ≤ hi0 → lo ≤ n ∧ n ≤ hi) (t : xa_subV vs ws) : xa_subV ((0, p0, lo0, hi0, n) :: vs) ((0, p, lo, hi, n) :: ws) := ⟨⟨rfl, rfl, h⟩, t⟩
theorem xa_svL {vs ws : List xa_V} {p p0 : Nat} {lo hi lo0 hi0 n : Int} (h : -9223372036854775808 ≤ n → n ≤ 9223372036854775807 → lo0 ≤ n → n ≤ hi0 → lo ≤ n ∧ n ≤ hi) (t : xa_subV vs ws) : xa_subV ((1, p0, lo0, hi0, n) :: vs) ((1, p, lo, hi, n) :: ws) := ⟨⟨rfl, rfl, h⟩, t⟩
theorem xa_svR {vs ws : List xa_V} {q : Nat} {a b c a0 b0 c0 : Int} (t : xa_subV vs ws) : xa_subV ((2, q, a0, b0, c0) :: vs) ((2, q, a, b, c) :: ws) := ⟨⟨rfl, rfl⟩, t⟩
/-- answers, told by other bounds -/
def xa_wk (post : Option xa_V → xa_M → Prop) : Option xa_V → xa_M → Prop := fun o M => match o with
  | none => post none M
  | some v => ∃ w, xa_vle v w ∧ post (some w) M
theorem xa_C_wk {I : xa_I} {A : Nat → Nat} {h0 : g_H} {d j : Nat} {vs : List xa_V} {M : xa_M} {post : Option xa_V → xa_M → Prop} (k : xa_C I A h0 d j vs M (xa_wk post)) : xa_C I A h0 d j vs M post := by
  intro h xs hH hA post' hp
  refine k h xs hH hA post' (fun v M' x h' hw hx hH' => ?_)
  cases v with
  | none => exact hp _ _ _ _ hw hx hH'
  | some v =>
    obtain ⟨w, h1, h2⟩ := hw
    obtain ⟨y, e, hy⟩ := hx
    exact hp _ _ _ _ h2 ⟨y, e, xa_vle_ok h1 hy⟩ hH'
theorem xa_wkI {post : Option xa_V → xa_M → Prop} {M : xa_M} {p p0 : Nat} {lo hi lo0 hi0 n0 : Int} (n : Int) (en : n0 = n) (h : lo0 ≤ n → n ≤ hi0 → lo ≤ n ∧ n ≤ hi) (k : post (some (0, p, lo, hi, n)) M) : xa_wk post (some (0, p0, lo0, hi0, n0)) M := ⟨(0, p, lo, hi, n), ⟨rfl, en, fun _ _ => h⟩, k⟩
theorem xa_wkL {post : Option xa_V → xa_M → Prop} {M : xa_M} {p p0 : Nat} {lo hi lo0 hi0 n0 : Int} (n : Int) (en : n0 = n) (h : lo0 ≤ n → n ≤ hi0 → lo ≤ n ∧ n ≤ hi) (k : post (some (1, p, lo, hi, n)) M) : xa_wk post (some (1, p0, lo0, hi0, n0)) M := ⟨(1, p, lo, hi, n), ⟨rfl, en, fun _ _ => h⟩, k⟩
/-- what follows from what holds -/
theorem xa_C_mono {I : xa_I} {A : Nat → Nat} {h0 : g_H} {d j : Nat} {vs : List xa_V} {M : xa_M} {post post2 : Option xa_V → xa_M → Prop} (k : xa_C I A h0 d j vs M post) (hp : ∀ o M', post o M' → post2 o M') : xa_C I A h0 d j vs M post2 := fun h xs hH hA post' hp' => k h xs hH hA post' (fun v M' x h' hv => hp' v M' x h' (hp v M' hv))
/-- numbers of a place are within its bounds -/
def xa_inb (sp : y_V) (n : Int) : Prop := sp.1 < 2 → sp.2.1 ≤ n ∧ n ≤ sp.2.2.1
def xa_Mok (I : xa_I) (M : xa_M) : Prop := ∀ q ro S, I q = some (ro, S) → ∀ j : Nat, j < ro.2.2.1 → xa_inb (xa_sp ro j) (M q (j : Int))
def xa_vok (v : xa_V) : Prop := v.1 < 2 → v.2.2.1 ≤ v.2.2.2.2 ∧ v.2.2.2.2 ≤ v.2.2.2.1
theorem xa_H_Mok {I : xa_I} {A : Nat → Nat} {M : xa_M} {h0 h : g_H} (hH : xa_H I A M h0 h) : xa_Mok I M := by
  intro q ro S hq j hj hk
  obtain ⟨f, -, hf⟩ := hH.2.1 q ro S hq
  have := hf j hj
  unfold xa_cv at this
  generalize xa_sp ro j = sp at this hk
  obtain ⟨g, lo, hi, rr⟩ := sp
  have hk' : g < 2 := hk
  match g, hk', this with
  | 0, _, ⟨m, _, _, h1, h2⟩ => exact ⟨h1, h2⟩
  | 1, _, ⟨m, _, _, h1, h2⟩ => exact ⟨h1, h2⟩
abbrev xa_Q : Type := Nat → xa_L → List xa_V → xa_M → Prop
/-- what may be used of a state's predicate in the proof of a method -/
def xa_go (I : xa_I) (C : xa_C0) (RT : Option xa_V → xa_M → Prop) (full : List s_I) (nL rt : Nat) (Q : xa_Q) : Prop :=
  (∀ (n : Nat) (cuts : List Nat) (pc : Nat) (L : xa_L) (st : List xa_V) (M : xa_M), xa_jp full (xa_wp I s_ft s_mi C RT Q cuts full nL rt n) pc L st M → Q pc L st M) ∧
  (∀ (pc : Nat) (L L' : xa_L) (st : List xa_V) (M : xa_M), xa_sub L' L → Q pc L' st M → Q pc L st M) ∧
  (∀ (pc : Nat) (L : xa_L) (st : List xa_V) (M : xa_M), (xa_Mok I M → (∀ p ∈ L, xa_vok p.2) → Q pc L st M) → Q pc L st M)
theorem xa_meth {I : xa_I} {A : Nat → Nat} {h0 : g_H} {d j : Nat} {Q0 : s_MI} (hq : s_mi[j]? = some Q0) (hz : Q0.2.2.2.1 = 0 ∧ Q0.2.2.2.2.1 = 0) {full : List s_I} (hfu : s_codes.getD j [] = full) {vs : List xa_V} {M : xa_M} {post : Option xa_V → xa_M → Prop} (hlen : Nat.ble (xa_sum vs) Q0.1 = true)
    (body : xa_Mok I M → (∀ v ∈ vs, xa_vok v) → ∀ Q : xa_Q, xa_go I (xa_C I A h0 d) post full Q0.1 Q0.2.1 Q → Q 0 (xa_args 0 vs) [] M) : xa_C I A h0 (d + 1) j vs M post := by
  intro h xs hH hA post' hpost
  obtain ⟨m1, m2, m3, m4, m5⟩ := s_mi_ok j Q0 hq
  obtain ⟨c1, c2⟩ := s_codes_ok j Q0 hq
  rw [hfu] at c1 c2
  refine ⟨m1, by rw [m2, xa_slA hA]; exact Nat.le_of_ble_eq_true hlen, ?_⟩
  rw [m5, m2, m4]
  intro P hend hcl
  have hvs : ∀ {vs : List xa_V} {xs : List Value}, xa_gS A vs xs → ∀ v ∈ vs, xa_vok v := by
    intro vs
    induction vs with
    | nil => intro xs _ v hv; cases hv
    | cons w ws ih =>
      intro xs hS v hv
      obtain ⟨x, ys, rfl, hg, hS'⟩ := xa_gS_cons hS
      rcases List.mem_cons.mp hv with rfl | hv
      · exact fun hk => xa_num hk hg
      · exact ih hS' v hv
  have hgo : xa_go I (xa_C I A h0 d) post full Q0.1 Q0.2.1 (xa_P P I A h0) := by
    refine ⟨fun n cuts pc L st M e => ?_, fun pc L L' st M e hQ h Ls sts hH hL hS => hQ h Ls sts hH (xa_sub_ok e hL) hS, fun pc L st M hQ h Ls sts hH hL hS => hQ (xa_H_Mok hH) (fun p hp hk => ?_) h Ls sts hH hL hS⟩
    · exact xa_jp_ok c2 e (xa_wp_ok hcl s_ft_ok (fun j q hq => s_mi_ok j q hq) (fun j vs M post hc h xs hH hA post' hp => hc h xs hH hA post' hp) c2 m3 hend hpost n)
    · obtain ⟨x, -, hg⟩ := hL p hp
      exact xa_num hk hg
  exact body (xa_H_Mok hH) (hvs hA) _ hgo h (lv_args 0 xs) [] hH (xa_args_ok hA) trivial
