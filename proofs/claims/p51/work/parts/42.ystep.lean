-- kinds and bounds: the steps are the plain machine's
/-- the names below 300000 stand for the same -/
def y_bt (β β' : Nat → Int) : Prop := ∀ k, k < 300000 → β' k = β k
def y_N (φ : Nat → Nat → Value) (R : y_R) (P : g_S → Prop) (W : y_W) (β : Nat → Int) (Xs : List y_X) : Prop := ∀ X ∈ Xs, ∀ (β' : Nat → Int) (h : g_H) (Ls : g_L) (sts : List Value), y_bt β β' → y_H φ R W β' h → y_gL W β' X.2.1 Ls → y_gS W β' Ls X.2.2 sts → P (s_pc X.1, Ls, sts, 0, 0, h)
section Y2
variable {CALL : Nat → List Value → g_H → Nat → Nat → (Option Value → g_H → Prop) → Prop} {cc : ByteArray} {o nL : Nat} {ini : Bool} {bc bs : Nat} {P : g_S → Prop} {R : y_R} {W : y_W} {β : Nat → Int} {φ : Nat → Nat → Value}
variable {full t : List s_I} {L : y_L} {st : List y_T} {Ls : g_L} {sts : List Value} {h : g_H} {Xs : List y_X} {pc a b : Nat} {ins : Instr} {r : s_I}
theorem y_tk_g {k : Nat} {v : y_V} (hk : y_tk k v = true) {x : Value} (hv : y_g W β v x) : (k = 0 → ∃ n, x = .int n) ∧ (k = 1 → ∃ n, x = .long n) ∧ (2 ≤ k → x = .null ∨ ∃ a, x = .ref a) := by
  obtain ⟨g, lo, hi, m, c⟩ := v
  unfold y_tk at hk
  refine ⟨fun h => ?_, fun h => ?_, fun h => ?_⟩
  · subst h
    obtain ⟨n, e, -⟩ := y_isI_g hk hv
    exact ⟨n, e⟩
  · subst h
    obtain ⟨n, e, -⟩ := y_isL_g hk hv
    exact ⟨n, e⟩
  · match k, h, hk with
    | k + 2, _, hk =>
      have hk' : (Nat.ble 2 g && Nat.ble g 4) = true := hk
      rw [Bool.and_eq_true, Nat.ble_eq, Nat.ble_eq] at hk'
      have hg : g = 2 ∨ g = 3 ∨ g = 4 := by omega
      rcases hg with rfl | rfl | rfl
      · obtain ⟨q, a, e, -⟩ := hv
        exact Or.inr ⟨a, e⟩
      · rcases hv with e | ⟨q, a, e, -⟩
        · exact Or.inl e
        · exact Or.inr ⟨a, e⟩
      · exact Or.inl hv
theorem y_ld_g {ins : Instr} {a k : Nat} (h : s_ldI ins = some (a, k)) {v : y_V} (hk : y_tk k v = true) {x : Value} (hv : y_g W β v x) : ∃ p, g_load ins = some (a, s_len ins, p) ∧ p x = true := by
  obtain ⟨k0, k1, k2⟩ := y_tk_g hk hv
  cases ins <;> simp only [s_ldI, reduceCtorEq, Option.some.injEq, Prod.mk.injEq] at h <;> obtain ⟨rfl, rfl⟩ := h <;> refine ⟨_, rfl, ?_⟩
  · rcases k2 (by decide) with e | ⟨z, e⟩ <;> rw [e]
  · rcases k2 (by decide) with e | ⟨z, e⟩ <;> rw [e]
  · obtain ⟨z, e⟩ := k0 rfl; rw [e]
  · obtain ⟨z, e⟩ := k0 rfl; rw [e]
  · obtain ⟨z, e⟩ := k1 rfl; rw [e]
  · obtain ⟨z, e⟩ := k1 rfl; rw [e]
theorem y_st_g {ins : Instr} {a k : Nat} {w : Bool} (h : s_stI ins = some (a, w, k)) {v : y_V} (hk : y_tk k v = true) {x : Value} (hv : y_g W β v x) : ∃ p, g_stor ins = some (a, s_len ins, w, p) ∧ p x = true := by
  obtain ⟨k0, k1, k2⟩ := y_tk_g hk hv
  cases ins <;> simp only [s_stI, reduceCtorEq, Option.some.injEq, Prod.mk.injEq] at h <;> obtain ⟨rfl, rfl, rfl⟩ := h <;> refine ⟨_, rfl, ?_⟩
  · rcases k2 (by decide) with e | ⟨z, e⟩ <;> rw [e]
  · rcases k2 (by decide) with e | ⟨z, e⟩ <;> rw [e]
  · obtain ⟨z, e⟩ := k0 rfl; rw [e]
  · obtain ⟨z, e⟩ := k0 rfl; rw [e]
  · obtain ⟨z, e⟩ := k1 rfl; rw [e]
  · obtain ⟨z, e⟩ := k1 rfl; rw [e]
theorem y_N1 {X : y_X} (hN : y_N φ R P W β [X]) (hH : y_H φ R W β h) (hL : y_gL W β X.2.1 Ls) (hS : y_gS W β Ls X.2.2 sts) : P (s_pc X.1, Ls, sts, 0, 0, h) := hN X List.mem_cons_self β h Ls sts (fun _ _ => rfl) hH hL hS
theorem y_push_ok {pc' : Nat} (hgo : s_pc t = pc') (hH : y_H φ R W β h) (hL : y_gL W β L Ls) (hS : y_gS W β Ls st sts) {v : y_V} {x : Value} (hv : y_g W β v x) (e : y_push t L st v = some Xs) (hN : y_N φ R P W β Xs) : P (pc', Ls, x :: sts, 0, 0, h) := by
  unfold y_push at e
  rw [y_fv_eq] at e
  cases e
  subst hgo
  exact y_N1 hN hH hL ⟨⟨hv, fun h => absurd rfl h⟩, hS⟩
theorem y_in32_g {n : Int} (h : y_in32 n n = true) : y_g W β (0, n, n, y_z) (.int (Int32.ofInt n)) := by
  unfold y_in32 at h
  rw [Bool.and_eq_true, decide_eq_true_eq, decide_eq_true_eq] at h
  have hz : (Int32.ofInt n).toInt = n := Int32.toInt_ofInt_of_le (by omega) (by omega)
  exact ⟨Int32.ofInt n, rfl, by rw [hz]; exact Int.le_refl _, by rw [hz]; exact Int.le_refl _, y_rl_z _⟩
theorem y_in64_g {n : Int} (h : y_in64 n n = true) : y_g W β (1, n, n, y_z) (.long (Int64.ofInt n)) := by
  unfold y_in64 at h
  rw [Bool.and_eq_true, decide_eq_true_eq, decide_eq_true_eq] at h
  have hz : (Int64.ofInt n).toInt = n := Int64.toInt_ofInt_of_le (by omega) (by omega)
  exact ⟨Int64.ofInt n, rfl, by rw [hz]; exact Int.le_refl _, by rw [hz]; exact Int.le_refl _, y_rl_z _⟩
theorem y_con_g {v : s_V} {u : y_V} (e : y_conV v = some u) : y_g W β u (s_cv (fun _ => 0) (fun _ => 0) 0 v) := by
  unfold y_conV at e
  split at e
  next n =>
    obtain ⟨h1, h2⟩ := s_bif e
    cases h2
    exact y_in32_g h1
  next n =>
    obtain ⟨h1, h2⟩ := s_bif e
    cases h2
    exact y_in64_g h1
  next n =>
    cases e
    rfl
  next => cases e
theorem y_q0_ok (hcl : ∀ S, g_pre CALL o nL ini bc bs cc P S → P S) (hd : decode cc pc = .ok (ins, s_len ins)) (hgo : s_pc t = pc + s_len ins) (hH : y_H φ R W β h) (hL : y_gL W β L Ls) (hS : y_gS W β Ls st sts) (e : y_q0 t L st ins = some Xs) (hN : y_N φ R P W β Xs) : P (pc, Ls, sts, 0, 0, h) := by
  unfold y_q0 at e
  split at e
  next v ev =>
    split at e
    next u eu =>
      have hg : y_g W β u (s_cv (fun _ => 0) (fun _ => 0) 0 v) := y_con_g eu
      exact hcl _ ⟨ins, _, hd, Or.inl (Or.inl ⟨_, s_con_g ev, y_push_ok hgo hH hL hS hg e hN⟩)⟩
    next => cases e
  next => cases e
theorem y_q1_ok (hcl : ∀ S, g_pre CALL o nL ini bc bs cc P S → P S) (hd : decode cc pc = .ok (ins, s_len ins)) (hgo : s_pc t = pc + s_len ins) (hQ : s_ldI ins = some (a, b)) (hH : y_H φ R W β h) (hL : y_gL W β L Ls) (hS : y_gS W β Ls st sts) (e : y_q1 t L st a b = some Xs) (hN : y_N φ R P W β Xs) : P (pc, Ls, sts, 0, 0, h) := by
  unfold y_q1 at e
  split at e
  next v ev =>
    obtain ⟨h1, h2⟩ := s_bif e
    rw [y_fv_eq] at h2
    cases h2
    rw [Bool.and_eq_true, Nat.blt_eq] at h1
    obtain ⟨x, hx, hg⟩ := hL _ (y_find_in ev)
    obtain ⟨p, g1, g2⟩ := y_ld_g hQ h1.2 hg
    have k := y_N1 hN hH hL (sts := x :: sts) ⟨⟨y_red_ok hL hg, fun _ => hx⟩, hS⟩
    rw [show s_pc t = pc + s_len ins from hgo] at k
    exact hcl _ ⟨ins, _, hd, Or.inl (Or.inr (Or.inl ⟨_, _, _, g1, hx.1 h1.1, g2, k⟩))⟩
  next => cases e
theorem y_q2_ok (hcl : ∀ S, g_pre CALL o nL ini bc bs cc P S → P S) (hd : decode cc pc = .ok (ins, s_len ins)) (hgo : s_pc t = pc + s_len ins) (hQ : s_stI ins = some (a, false, b)) (hH : y_H φ R W β h) (hL : y_gL W β L Ls) (hS : y_gS W β Ls st sts) (e : y_q2 nL t L st a b = some Xs) (hN : y_N φ R P W β Xs) : P (pc, Ls, sts, 0, 0, h) := by
  unfold y_q2 at e
  split at e
  next v rest =>
    obtain ⟨h1, h2⟩ := s_bif e
    rw [Bool.and_eq_true, Bool.and_eq_true, Bool.and_eq_true, Nat.blt_eq, Nat.blt_eq] at h1
    rw [y_fil1_eq, y_clr_eq] at h2
    cases h2
    obtain ⟨x, xs, rfl, hg, -, hS'⟩ := y_gS_cons hS
    obtain ⟨p, g1, g2⟩ := y_st_g hQ h1.1 hg
    have k := y_N1 hN hH (y_gL_st1 (i := a) h1.2.1 hL hg) (y_gS_clr hS')
    rw [show s_pc t = pc + s_len ins from hgo] at k
    exact hcl _ ⟨ins, _, hd, Or.inl (Or.inr (Or.inr (Or.inl ⟨_, _, _, _, g1, rfl, g2, h1.2.2.1, k⟩)))⟩
  next => cases e
theorem y_q3_ok (hcl : ∀ S, g_pre CALL o nL ini bc bs cc P S → P S) (hd : decode cc pc = .ok (ins, s_len ins)) (hgo : s_pc t = pc + s_len ins) (hQ : s_stI ins = some (a, true, b)) (hH : y_H φ R W β h) (hL : y_gL W β L Ls) (hS : y_gS W β Ls st sts) (e : y_q3 nL t L st a b = some Xs) (hN : y_N φ R P W β Xs) : P (pc, Ls, sts, 0, 0, h) := by
  unfold y_q3 at e
  split at e
  next v rest =>
    obtain ⟨h1, h2⟩ := s_bif e
    rw [Bool.and_eq_true, Bool.and_eq_true, Bool.and_eq_true, Nat.blt_eq, Nat.blt_eq] at h1
    rw [y_fil2_eq, y_clr_eq] at h2
    cases h2
    obtain ⟨x, xs, rfl, hg, -, hS'⟩ := y_gS_cons hS
    obtain ⟨p, g1, g2⟩ := y_st_g hQ h1.1 hg
    have k := y_N1 hN hH (y_gL_st2 (i := a) h1.2.1 hL hg) (y_gS_clr hS')
    rw [show s_pc t = pc + s_len ins from hgo] at k
    exact hcl _ ⟨ins, _, hd, Or.inl (Or.inr (Or.inr (Or.inr (Or.inl ⟨_, _, _, _, g1, rfl, g2, h1.2.2.1, k⟩))))⟩
  next => cases e
theorem y_q4_ok (hcl : ∀ S, g_pre CALL o nL ini bc bs cc P S → P S) {n : Int} (hd : decode cc pc = .ok (.iinc a n, s_len (.iinc a n))) (hgo : s_pc t = pc + s_len (.iinc a n)) (hH : y_H φ R W β h) (hL : y_gL W β L Ls) (hS : y_gS W β Ls st sts) (e : y_q4 nL t L st a n = some Xs) (hN : y_N φ R P W β Xs) : P (pc, Ls, sts, 0, 0, h) := by
  unfold y_q4 at e
  split at e
  next u eu =>
    obtain ⟨h1, h2⟩ := s_bif e
    rw [Bool.and_eq_true, Bool.and_eq_true, Bool.and_eq_true, Nat.blt_eq, Nat.blt_eq] at h1
    rw [y_fv_eq, y_fil1_eq, y_clr_eq] at h2
    cases h2
    obtain ⟨x, hx, hg⟩ := hL _ (y_find_in eu)
    obtain ⟨m, rfl, hm⟩ := y_isI_g h1.1 hg
    have hn := y_in32_g (W := W) (β := β) h1.2.2.2
    obtain ⟨m2, e2, hm2⟩ := y_isI_g (v := (0, n, n, y_z)) rfl hn
    cases e2
    have hv := y_bin32_ok (W := W) (a := 0) hm hm2
    have k := y_N1 hN hH (y_gL_st1 (i := a) h1.2.1 hL hv) (y_gS_clr hS)
    rw [show s_pc t = pc + s_len (.iinc a n) from hgo] at k
    exact hcl _ ⟨_, _, hd, Or.inl (Or.inr (Or.inr (Or.inr (Or.inr (Or.inl ⟨_, _, _, rfl, Or.inl rfl, hx.1 h1.2.1, h1.2.2.1, k⟩)))))⟩
  next => cases e
theorem y_c2_1 {v : y_V} (hc : y_c2 v = false) {x : Value} (hg : y_g W β v x) : x.category = 1 := by
  rw [y_cat hg, hc]
  rfl
theorem y_c2_2 {v : y_V} (hc : y_c2 v = true) {x : Value} (hg : y_g W β v x) : x.category = 2 := by
  rw [y_cat hg, hc]
  rfl
theorem y_q5_ok (hcl : ∀ S, g_pre CALL o nL ini bc bs cc P S → P S) (hd : decode cc pc = .ok (.dup, 1)) (hgo : s_pc t = pc + 1) (hH : y_H φ R W β h) (hL : y_gL W β L Ls) (hS : y_gS W β Ls st sts) (e : y_q5 t L st = some Xs) (hN : y_N φ R P W β Xs) : P (pc, Ls, sts, 0, 0, h) := by
  unfold y_q5 at e
  split at e
  next v rest =>
    obtain ⟨h1, h2⟩ := s_bifn e
    cases h2
    obtain ⟨x, xs, rfl, hg, hp, hS'⟩ := y_gS_cons hS
    have k := y_N1 hN hH hL (sts := x :: x :: xs) ⟨⟨hg, hp⟩, ⟨hg, hp⟩, hS'⟩
    rw [show s_pc t = pc + 1 from hgo] at k
    exact hcl _ ⟨_, _, hd, Or.inl (Or.inr (Or.inr (Or.inr (Or.inr (Or.inr (Or.inl ⟨_, _, rfl, rfl, rfl, y_c2_1 h1 hg, k⟩))))))⟩
  next => cases e
theorem y_q6_ok (hcl : ∀ S, g_pre CALL o nL ini bc bs cc P S → P S) (hd : decode cc pc = .ok (.pop, 1)) (hgo : s_pc t = pc + 1) (hH : y_H φ R W β h) (hL : y_gL W β L Ls) (hS : y_gS W β Ls st sts) (e : y_q6 t L st = some Xs) (hN : y_N φ R P W β Xs) : P (pc, Ls, sts, 0, 0, h) := by
  unfold y_q6 at e
  split at e
  next v rest =>
    obtain ⟨h1, h2⟩ := s_bifn e
    cases h2
    obtain ⟨x, xs, rfl, hg, hp, hS'⟩ := y_gS_cons hS
    have k := y_N1 hN hH hL hS'
    rw [show s_pc t = pc + 1 from hgo] at k
    exact hcl _ ⟨_, _, hd, Or.inl (Or.inr (Or.inr (Or.inr (Or.inr (Or.inr (Or.inr (Or.inl ⟨_, _, rfl, rfl, rfl, y_c2_1 h1 hg, k⟩)))))))⟩
  next => cases e
theorem y_q7_ok (hcl : ∀ S, g_pre CALL o nL ini bc bs cc P S → P S) (hd : decode cc pc = .ok (.dup_x1, 1)) (hgo : s_pc t = pc + 1) (hH : y_H φ R W β h) (hL : y_gL W β L Ls) (hS : y_gS W β Ls st sts) (e : y_q7 t L st = some Xs) (hN : y_N φ R P W β Xs) : P (pc, Ls, sts, 0, 0, h) := by
  unfold y_q7 at e
  split at e
  next v u rest =>
    obtain ⟨h1, h2⟩ := s_bifn e
    cases h2
    rw [Bool.or_eq_false_iff] at h1
    obtain ⟨x, xs, rfl, hg, hp, hS'⟩ := y_gS_cons hS
    obtain ⟨y, ys, rfl, hg2, hp2, hS2⟩ := y_gS_cons hS'
    have k := y_N1 hN hH hL (sts := x :: y :: x :: ys) ⟨⟨hg, hp⟩, ⟨hg2, hp2⟩, ⟨hg, hp⟩, hS2⟩
    rw [show s_pc t = pc + 1 from hgo] at k
    exact hcl _ ⟨_, _, hd, Or.inl (Or.inr (Or.inr (Or.inr (Or.inr (Or.inr (Or.inr (Or.inr (Or.inl ⟨_, _, _, rfl, rfl, rfl, y_c2_1 h1.1 hg, y_c2_1 h1.2 hg2, k⟩))))))))⟩
  next => cases e
theorem y_q8_ok (hcl : ∀ S, g_pre CALL o nL ini bc bs cc P S → P S) (hd : decode cc pc = .ok (.dup2, 1)) (hgo : s_pc t = pc + 1) (hH : y_H φ R W β h) (hL : y_gL W β L Ls) (hS : y_gS W β Ls st sts) (e : y_q8 t L st = some Xs) (hN : y_N φ R P W β Xs) : P (pc, Ls, sts, 0, 0, h) := by
  unfold y_q8 at e
  split at e
  next v u rest =>
    obtain ⟨x, xs, rfl, hg, hp, hS'⟩ := y_gS_cons hS
    obtain ⟨y, ys, rfl, hg2, hp2, hS2⟩ := y_gS_cons hS'
    cases h1 : y_c2 v.1
    · rw [h1, cond_false] at e
      obtain ⟨h3, h2⟩ := s_bifn e
      cases h2
      have k := y_N1 hN hH hL (sts := x :: y :: x :: y :: ys) ⟨⟨hg, hp⟩, ⟨hg2, hp2⟩, ⟨hg, hp⟩, ⟨hg2, hp2⟩, hS2⟩
      rw [show s_pc t = pc + 1 from hgo] at k
      exact hcl _ ⟨_, _, hd, Or.inl (Or.inr (Or.inr (Or.inr (Or.inr (Or.inr (Or.inr (Or.inr (Or.inr (Or.inl ⟨_, _, _, rfl, rfl, rfl, y_c2_1 h1 hg, y_c2_1 h3 hg2, k⟩)))))))))⟩
    · rw [h1, cond_true] at e
      cases e
      have k := y_N1 hN hH hL (sts := x :: x :: y :: ys) ⟨⟨hg, hp⟩, ⟨hg, hp⟩, ⟨hg2, hp2⟩, hS2⟩
      rw [show s_pc t = pc + 1 from hgo] at k
      exact hcl _ ⟨_, _, hd, Or.inl (Or.inr (Or.inr (Or.inr (Or.inr (Or.inr (Or.inr (Or.inr (Or.inr (Or.inr (Or.inl ⟨_, _, rfl, rfl, rfl, y_c2_2 h1 hg, k⟩))))))))))⟩
  next => cases e
theorem y_q11_ok (hcl : ∀ S, g_pre CALL o nL ini bc bs cc P S → P S) (hQ : s_ibn ins = some a) (hd : decode cc pc = .ok (ins, s_len ins)) (hgo : s_pc t = pc + s_len ins) (hH : y_H φ R W β h) (hL : y_gL W β L Ls) (hS : y_gS W β Ls st sts) (e : y_q11 t L st a = some Xs) (hN : y_N φ R P W β Xs) : P (pc, Ls, sts, 0, 0, h) := by
  unfold y_q11 at e
  split at e
  next v u rest =>
    obtain ⟨h1, h2⟩ := s_bif e
    rw [Bool.and_eq_true] at h1
    obtain ⟨y, ys, rfl, hg, -, hS'⟩ := y_gS_cons hS
    obtain ⟨x, xs, rfl, hg2, -, hS2⟩ := y_gS_cons hS'
    obtain ⟨n, rfl, hn⟩ := y_isI_g h1.2 hg
    obtain ⟨m, rfl, hm⟩ := y_isI_g h1.1 hg2
    obtain ⟨g1, g2⟩ := s_ib_g hQ
    rw [g2] at hd hgo
    exact hcl _ ⟨_, _, hd, Or.inr (Or.inl (Or.inl ⟨_, _, _, _, g1, rfl, rfl, y_push_ok hgo hH hL hS2 (y_bin32_ok hm hn) h2 hN⟩))⟩
  next => cases e
theorem y_no0_32 {v : y_V} {n : Int32} (h : y_no0 v = true) (hn : y_num β v n.toInt) : ¬ n = 0 := by
  unfold y_no0 at h
  rw [Bool.or_eq_true, decide_eq_true_eq, decide_eq_true_eq] at h
  intro e
  have h1 := hn.1
  have h2 := hn.2.1
  rw [e, show (0 : Int32).toInt = 0 from rfl] at h1 h2
  omega
theorem y_no0_64 {v : y_V} {n : Int64} (h : y_no0 v = true) (hn : y_num β v n.toInt) : ¬ n = 0 := by
  unfold y_no0 at h
  rw [Bool.or_eq_true, decide_eq_true_eq, decide_eq_true_eq] at h
  intro e
  have h1 := hn.1
  have h2 := hn.2.1
  rw [e, show (0 : Int64).toInt = 0 from rfl] at h1 h2
  omega
theorem y_q12_ok (hcl : ∀ S, g_pre CALL o nL ini bc bs cc P S → P S) (hQ : s_idn ins = some a) (hd : decode cc pc = .ok (ins, s_len ins)) (hgo : s_pc t = pc + s_len ins) (hH : y_H φ R W β h) (hL : y_gL W β L Ls) (hS : y_gS W β Ls st sts) (e : y_q12 t L st a = some Xs) (hN : y_N φ R P W β Xs) : P (pc, Ls, sts, 0, 0, h) := by
  unfold y_q12 at e
  split at e
  next v u rest =>
    obtain ⟨h1, h2⟩ := s_bif e
    rw [Bool.and_eq_true, Bool.and_eq_true] at h1
    obtain ⟨y, ys, rfl, hg, -, hS'⟩ := y_gS_cons hS
    obtain ⟨x, xs, rfl, hg2, -, hS2⟩ := y_gS_cons hS'
    obtain ⟨n, rfl, hn⟩ := y_isI_g h1.2.1 hg
    obtain ⟨m, rfl, hm⟩ := y_isI_g h1.1 hg2
    obtain ⟨g1, g2⟩ := s_id_g hQ
    rw [g2] at hd hgo
    exact hcl _ ⟨_, _, hd, Or.inr (Or.inl (Or.inr (Or.inl ⟨_, _, _, _, g1, rfl, y_no0_32 h1.2.2 hn, rfl, y_push_ok hgo hH hL hS2 (y_div32_ok hm hn) h2 hN⟩)))⟩
  next => cases e
theorem y_q13_ok (hcl : ∀ S, g_pre CALL o nL ini bc bs cc P S → P S) (hQ : s_iun ins = some a) (hd : decode cc pc = .ok (ins, s_len ins)) (hgo : s_pc t = pc + s_len ins) (hH : y_H φ R W β h) (hL : y_gL W β L Ls) (hS : y_gS W β Ls st sts) (e : y_q13 t L st a = some Xs) (hN : y_N φ R P W β Xs) : P (pc, Ls, sts, 0, 0, h) := by
  unfold y_q13 at e
  split at e
  next v rest =>
    obtain ⟨h1, h2⟩ := s_bif e
    obtain ⟨y, ys, rfl, hg, -, hS'⟩ := y_gS_cons hS
    obtain ⟨n, rfl, hn⟩ := y_isI_g h1 hg
    obtain ⟨g1, g2⟩ := s_iu_g hQ
    rw [g2] at hd hgo
    exact hcl _ ⟨_, _, hd, Or.inr (Or.inl (Or.inr (Or.inr (Or.inl ⟨_, _, _, g1, rfl, rfl, y_push_ok hgo hH hL hS' (y_un32_ok hn) h2 hN⟩))))⟩
  next => cases e
theorem y_q14_ok (hcl : ∀ S, g_pre CALL o nL ini bc bs cc P S → P S) (hQ : s_lbn ins = some a) (hd : decode cc pc = .ok (ins, s_len ins)) (hgo : s_pc t = pc + s_len ins) (hH : y_H φ R W β h) (hL : y_gL W β L Ls) (hS : y_gS W β Ls st sts) (e : y_q14 t L st a = some Xs) (hN : y_N φ R P W β Xs) : P (pc, Ls, sts, 0, 0, h) := by
  unfold y_q14 at e
  split at e
  next v u rest =>
    obtain ⟨h1, h2⟩ := s_bif e
    rw [Bool.and_eq_true] at h1
    obtain ⟨y, ys, rfl, hg, -, hS'⟩ := y_gS_cons hS
    obtain ⟨x, xs, rfl, hg2, -, hS2⟩ := y_gS_cons hS'
    obtain ⟨n, rfl, hn⟩ := y_isL_g h1.2 hg
    obtain ⟨m, rfl, hm⟩ := y_isL_g h1.1 hg2
    obtain ⟨g1, g2⟩ := s_lb_g hQ
    rw [g2] at hd hgo
    exact hcl _ ⟨_, _, hd, Or.inr (Or.inl (Or.inr (Or.inr (Or.inr (Or.inl ⟨_, _, _, _, g1, rfl, rfl, y_push_ok hgo hH hL hS2 (y_bin64_ok hm hn) h2 hN⟩)))))⟩
  next => cases e
theorem y_q15_ok (hcl : ∀ S, g_pre CALL o nL ini bc bs cc P S → P S) (hQ : s_ldn ins = some a) (hd : decode cc pc = .ok (ins, s_len ins)) (hgo : s_pc t = pc + s_len ins) (hH : y_H φ R W β h) (hL : y_gL W β L Ls) (hS : y_gS W β Ls st sts) (e : y_q15 t L st a = some Xs) (hN : y_N φ R P W β Xs) : P (pc, Ls, sts, 0, 0, h) := by
  unfold y_q15 at e
  split at e
  next v u rest =>
    obtain ⟨h1, h2⟩ := s_bif e
    rw [Bool.and_eq_true, Bool.and_eq_true] at h1
    obtain ⟨y, ys, rfl, hg, -, hS'⟩ := y_gS_cons hS
    obtain ⟨x, xs, rfl, hg2, -, hS2⟩ := y_gS_cons hS'
    obtain ⟨n, rfl, hn⟩ := y_isL_g h1.2.1 hg
    obtain ⟨m, rfl, hm⟩ := y_isL_g h1.1 hg2
    obtain ⟨g1, g2⟩ := s_ldv_g hQ
    rw [g2] at hd hgo
    exact hcl _ ⟨_, _, hd, Or.inr (Or.inl (Or.inr (Or.inr (Or.inr (Or.inr (Or.inl ⟨_, _, _, _, g1, rfl, y_no0_64 h1.2.2 hn, rfl, y_push_ok hgo hH hL hS2 (y_div64_ok hm hn) h2 hN⟩))))))⟩
  next => cases e
theorem y_q16_ok (hcl : ∀ S, g_pre CALL o nL ini bc bs cc P S → P S) (hd : decode cc pc = .ok (.lneg, 1)) (hgo : s_pc t = pc + 1) (hH : y_H φ R W β h) (hL : y_gL W β L Ls) (hS : y_gS W β Ls st sts) (e : y_q16 t L st = some Xs) (hN : y_N φ R P W β Xs) : P (pc, Ls, sts, 0, 0, h) := by
  unfold y_q16 at e
  split at e
  next v rest =>
    obtain ⟨h1, h2⟩ := s_bif e
    obtain ⟨y, ys, rfl, hg, -, hS'⟩ := y_gS_cons hS
    obtain ⟨n, rfl, hn⟩ := y_isL_g h1 hg
    have hv : y_g W β (bif decide (-9223372036854775808 < v.1.2.1) then (1, -v.1.2.2.1, -v.1.2.1, y_z) else y_i64) (.long (-n)) := by
      cases e : decide (-9223372036854775808 < v.1.2.1)
      · exact y_any64 _
      · have e := of_decide_eq_true e
        have h1 := Int64.toInt_lt n
        have hx1 := hn.1
        have hx2 := hn.2.1
        have f : (-n).toInt = -n.toInt := by
          rw [Int64.toInt_neg]
          apply Int.bmod_eq_of_le <;> omega
        exact ⟨-n, rfl, by rw [f]; omega, by rw [f]; omega, y_rl_z _⟩
    exact hcl _ ⟨_, _, hd, Or.inr (Or.inl (Or.inr (Or.inr (Or.inr (Or.inr (Or.inr (Or.inl ⟨_, _, rfl, rfl, rfl, y_push_ok hgo hH hL hS' hv h2 hN⟩)))))))⟩
  next => cases e
theorem y_q17_ok (hcl : ∀ S, g_pre CALL o nL ini bc bs cc P S → P S) (hd : decode cc pc = .ok (.i2l, 1)) (hgo : s_pc t = pc + 1) (hH : y_H φ R W β h) (hL : y_gL W β L Ls) (hS : y_gS W β Ls st sts) (e : y_q17 t L st = some Xs) (hN : y_N φ R P W β Xs) : P (pc, Ls, sts, 0, 0, h) := by
  unfold y_q17 at e
  split at e
  next v rest =>
    obtain ⟨h1, h2⟩ := s_bif e
    obtain ⟨y, ys, rfl, hg, -, hS'⟩ := y_gS_cons hS
    obtain ⟨n, rfl, hn⟩ := y_isI_g h1 hg
    have f := Int32.toInt_toInt64 n
    have hv : y_g W β (1, v.1.2) (.long n.toInt64) := ⟨n.toInt64, rfl, by rw [f]; exact hn.1, by rw [f]; exact hn.2.1, by rw [f]; exact hn.2.2⟩
    exact hcl _ ⟨_, _, hd, Or.inr (Or.inl (Or.inr (Or.inr (Or.inr (Or.inr (Or.inr (Or.inr (Or.inr (Or.inl ⟨_, _, rfl, rfl, rfl, y_push_ok hgo hH hL hS' hv h2 hN⟩)))))))))⟩
  next => cases e
theorem y_q18_ok (hcl : ∀ S, g_pre CALL o nL ini bc bs cc P S → P S) (hd : decode cc pc = .ok (.l2i, 1)) (hgo : s_pc t = pc + 1) (hH : y_H φ R W β h) (hL : y_gL W β L Ls) (hS : y_gS W β Ls st sts) (e : y_q18 t L st = some Xs) (hN : y_N φ R P W β Xs) : P (pc, Ls, sts, 0, 0, h) := by
  unfold y_q18 at e
  split at e
  next v rest =>
    obtain ⟨h1, h2⟩ := s_bif e
    obtain ⟨y, ys, rfl, hg, -, hS'⟩ := y_gS_cons hS
    obtain ⟨n, rfl, hn⟩ := y_isL_g h1 hg
    have hv : y_g W β (bif y_in32 v.1.2.1 v.1.2.2.1 then (0, v.1.2) else y_i32) (.int n.toInt32) := by
      cases e : y_in32 v.1.2.1 v.1.2.2.1
      · exact y_any32 _
      · unfold y_in32 at e
        rw [Bool.and_eq_true, decide_eq_true_eq, decide_eq_true_eq] at e
        have hx1 := hn.1
        have hx2 := hn.2.1
        have f : n.toInt32.toInt = n.toInt := by
          rw [Int64.toInt_toInt32]
          apply Int.bmod_eq_of_le <;> omega
        exact ⟨n.toInt32, rfl, by rw [f]; exact hx1, by rw [f]; exact hx2, by rw [f]; exact hn.2.2⟩
    exact hcl _ ⟨_, _, hd, Or.inr (Or.inl (Or.inr (Or.inr (Or.inr (Or.inr (Or.inr (Or.inr (Or.inr (Or.inr (Or.inl ⟨_, _, rfl, rfl, rfl, y_push_ok hgo hH hL hS' hv h2 hN⟩))))))))))⟩
  next => cases e
end Y2
