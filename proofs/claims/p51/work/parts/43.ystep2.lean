-- kinds and bounds: branches, fields, arrays
section Y3
variable {CALL : Nat → List Value → g_H → Nat → Nat → (Option Value → g_H → Prop) → Prop} {cc : ByteArray} {o nL : Nat} {ini : Bool} {bc bs : Nat} {P : g_S → Prop} {R : y_R} {W : y_W} {β : Nat → Int} {φ : Nat → Nat → Value}
variable {full t : List s_I} {L : y_L} {st : List y_T} {Ls : g_L} {sts : List Value} {h : g_H} {Xs : List y_X} {pc a b : Nat} {ins : Instr} {r : s_I}
def y_narL (t : y_T) (lo hi : Int) (r : y_Q) (L : y_L) : y_L := match t.2 with
  | 0 => L
  | i + 1 => L.map (fun q => if q.1 = i then (q.1, (t.1.1, lo, hi, r)) else q)
theorem y_nar_eq {α : Type} (t : y_T) (lo hi : Int) (r : y_Q) (L : y_L) (k : y_L → α) : y_nar t lo hi r L k = k (y_narL t lo hi r L) := by
  obtain ⟨v, i⟩ := t
  cases i with
  | zero => rfl
  | succ i => simp only [y_nar, y_narL, y_fv_eq, y_upd_eq]
theorem y_narL_ok {t : y_T} {lo hi : Int} {r : y_Q} {x : Value} (hv : y_g W β (t.1.1, lo, hi, r) x) (hp : t.2 ≠ 0 → y_at β Ls (t.2 - 1) x) (hL : y_gL W β L Ls) : y_gL W β (y_narL t lo hi r L) Ls := by
  obtain ⟨v, i⟩ := t
  cases i with
  | zero => exact hL
  | succ i => exact y_gL_upd hL (hp (Nat.succ_ne_zero _)) hv
/-- a number on the stack, as a branch looks at it -/
def y_nb (W : y_W) (β : Nat → Int) (Ls : g_L) (t : y_T) (m : Int) : Prop := t.1.2.1 ≤ m ∧ m ≤ t.1.2.2.1 ∧ y_rl β t.1.2.2.2 m ∧ (t.2 ≠ 0 → ∃ x, y_at β Ls (t.2 - 1) x ∧ ∀ lo hi r, lo ≤ m → m ≤ hi → y_rl β r m → y_g W β (t.1.1, lo, hi, r) x)
theorem y_nb_I {t : y_T} (hk : y_isI t = true) {n : Int32} (hn : y_num β t.1 n.toInt) (hp : t.2 ≠ 0 → y_at β Ls (t.2 - 1) (Value.int n)) : y_nb W β Ls t n.toInt :=
  ⟨hn.1, hn.2.1, hn.2.2, fun h0 => ⟨_, hp h0, fun lo hi r h1 h2 h3 => by
    have ht : t.1.1 = 0 := Nat.beq_eq.mp hk
    rw [ht]
    exact ⟨n, rfl, h1, h2, h3⟩⟩⟩
theorem y_nb_L {t : y_T} (hk : y_isL t = true) {n : Int64} (hn : y_num β t.1 n.toInt) (hp : t.2 ≠ 0 → y_at β Ls (t.2 - 1) (Value.long n)) : y_nb W β Ls t n.toInt :=
  ⟨hn.1, hn.2.1, hn.2.2, fun h0 => ⟨_, hp h0, fun lo hi r h1 h2 h3 => by
    have ht : t.1.1 = 1 := Nat.beq_eq.mp hk
    rw [ht]
    exact ⟨n, rfl, h1, h2, h3⟩⟩⟩
theorem y_nb_narL {t : y_T} {m lo hi : Int} {r : y_Q} (hn : y_nb W β Ls t m) (h1 : lo ≤ m) (h2 : m ≤ hi) (h3 : y_rl β r m) (hL : y_gL W β L Ls) : y_gL W β (y_narL t lo hi r L) Ls := by
  by_cases h0 : t.2 = 0
  · unfold y_narL
    rw [h0]
    exact hL
  · obtain ⟨x, hx, hg⟩ := hn.2.2.2 h0
    exact y_narL_ok (hg lo hi r h1 h2 h3) (fun _ => hx) hL
def y_narNL (t : y_T) (lo hi : Int) (L : y_L) : y_L := bif Nat.ble 150000 t.1.2.2.2.1 then y_narKL t.1.2.2.2.1 t.1.2.2.2.2.1 lo hi L else L
theorem y_narN_eq {α : Type} (t : y_T) (lo hi : Int) (L : y_L) (k : y_L → α) : y_narN t lo hi L k = k (y_narNL t lo hi L) := by
  unfold y_narN y_narNL
  cases Nat.ble 150000 t.1.2.2.2.1
  · rfl
  · rw [cond_true, cond_true, y_narK_eq]
theorem y_narNL_ok {t : y_T} {m lo hi : Int} (hn : y_nb W β Ls t m) (h1 : lo ≤ m) (h2 : m ≤ hi) (hL : y_gL W β L Ls) : y_gL W β (y_narNL t lo hi L) Ls := by
  unfold y_narNL
  cases e : Nat.ble 150000 t.1.2.2.2.1
  · exact hL
  · have h0 := Nat.le_of_ble_eq_true e
    exact y_narKL_ok (by omega) (hn.2.2.1.1 (by omega)) h1 h2 hL
theorem y_road0_ok {cd : ClassFile.Cond} {x y : y_T} {rest : List y_T} {tt : Option (List s_I)} {m n : Int} (e : y_road0 (s_cdn cd) x y L rest tt = some Xs) (hx : y_nb W β Ls x m) (hy : y_nb W β Ls y n) (hc : h_ci m n cd = true) (hH : y_H φ R W β h) (hL : y_gL W β L Ls) (hS : y_gS W β Ls rest sts) (hN : y_N φ R P W β Xs) : ∃ t', tt = some t' ∧ P (s_pc t', Ls, sts, 0, 0, h) := by
  have hb := y_cnd_ok hx.1 hx.2.1 hy.1 hy.2.1 hc
  have hq := y_cq_ok hx.2.2.1 hy.2.2.1 hc
  unfold y_road0 at e
  generalize y_cnd (s_cdn cd) x.1.2.1 x.1.2.2.1 y.1.2.1 y.1.2.2.1 = B at e hb
  obtain ⟨⟨a, b⟩, c, d⟩ := B
  obtain ⟨b1, b2, b3, b4⟩ := hb
  dsimp only at b1 b2 b3 b4
  simp only [s_fi_eq] at e
  rw [y_rinf_ok hx.2.2.1 hy.2.2.1 hc, Bool.or_false] at e
  cases e1 : (decide (b < a) || decide (d < c))
  · rw [e1, cond_false] at e
    cases tt with
    | none => cases e
    | some t' =>
      generalize y_cq (s_cdn cd) x.1.2.2.2 y.1.2.2.2 = Q at e hq
      obtain ⟨p, q⟩ := Q
      simp only [y_nar_eq, y_narN_eq] at e
      cases e
      exact ⟨t', rfl, y_N1 hN hH (y_narNL_ok hy b3 b4 (y_narNL_ok hx b1 b2 (y_nb_narL hy b3 b4 hq.2 (y_nb_narL hx b1 b2 hq.1 hL)))) hS⟩
  · rw [Bool.or_eq_true, decide_eq_true_eq, decide_eq_true_eq] at e1
    omega
theorem y_two_ok {x y : Option (List y_X)} (e : y_two x y = some Xs) : ∃ A B, x = some A ∧ y = some B ∧ Xs = A ++ B := by
  unfold y_two at e
  split at e
  next A =>
    split at e
    next B => cases e; exact ⟨A, B, rfl, rfl, rfl⟩
    next => cases e
  next => cases e
theorem y_N_l {A B : List y_X} (hN : y_N φ R P W β (A ++ B)) : y_N φ R P W β A := fun X hX => hN X (List.mem_append_left _ hX)
theorem y_N_r {A B : List y_X} (hN : y_N φ R P W β (A ++ B)) : y_N φ R P W β B := fun X hX => hN X (List.mem_append_right _ hX)
theorem y_road_ok {cd : ClassFile.Cond} {x y : y_T} {rest : List y_T} {tt : Option (List s_I)} {m n : Int} (e : y_road (s_cdn cd) x y L rest tt = some Xs) (hx : y_nb W β Ls x m) (hy : y_nb W β Ls y n) (hc : h_ci m n cd = true) (hH : y_H φ R W β h) (hL : y_gL W β L Ls) (hS : y_gS W β Ls rest sts) (hN : y_N φ R P W β Xs) : ∃ t', tt = some t' ∧ P (s_pc t', Ls, sts, 0, 0, h) := by
  unfold y_road at e
  cases e0 : y_spl (s_cdn cd) x y
  · rw [e0, cond_false] at e
    exact y_road0_ok e hx hy hc hH hL hS hN
  · rw [e0, cond_true] at e
    obtain ⟨A, B, e1, e2, rfl⟩ := y_two_ok e
    unfold y_spl at e0
    rw [Bool.and_eq_true, Nat.beq_eq] at e0
    have hne : cd = .ne := by
      have h1 := e0.1
      cases cd <;> first | rfl | (exact absurd h1 (by decide))
    subst hne
    have hmn : ¬ m = n := by
      have := hc
      simp only [h_ci, decide_eq_true_eq] at this
      exact this
    by_cases hlt : m < n
    · exact y_road0_ok (cd := .lt) e1 hx hy (decide_eq_true hlt) hH hL hS (y_N_l hN)
    · exact y_road0_ok (cd := .gt) e2 hx hy (decide_eq_true (show n < m by omega)) hH hL hS (y_N_r hN)
theorem y_bra_ok {cd : ClassFile.Cond} {x y : y_T} {rest : List y_T} {m n : Int} (e : y_bra full r t a (s_cdn cd) x y L rest = some Xs) (hx : y_nb W β Ls x m) (hy : y_nb W β Ls y n) (hH : y_H φ R W β h) (hL : y_gL W β L Ls) (hS : y_gS W β Ls rest sts) (hN : y_N φ R P W β Xs) : P (if h_ci m n cd = true then a else r.1 + r.2.1, Ls, sts, 0, 0, h) := by
  unfold y_bra at e
  obtain ⟨A, B, e1, e2, rfl⟩ := y_two_ok e
  by_cases hc : h_ci m n cd = true
  · rw [if_pos hc]
    obtain ⟨t', h1, h2⟩ := y_road_ok e1 hx hy hc hH hL hS (y_N_l hN)
    rw [(s_jump_mem h1).1] at h2
    exact h2
  · rw [if_neg hc]
    rw [← y_ncd_n] at e2
    obtain ⟨t', h1, h2⟩ := y_road_ok e2 hx hy (y_ncd_h hc) hH hL hS (y_N_r hN)
    obtain ⟨h3, h4⟩ := s_bif h1
    cases h4
    rw [s_go_eq h3] at h2
    exact h2
theorem y_nb_0 : y_nb W β Ls ((0, 0, 0, y_z), 0) 0 := ⟨Int.le_refl _, Int.le_refl _, y_rl_z _, fun h => absurd rfl h⟩
theorem y_q21_ok (hcl : ∀ S, g_pre CALL o nL ini bc bs cc P S → P S) {cd : ClassFile.Cond} {off : Int} (hd : decode cc r.1 = .ok (.ifCond cd off, 3)) (hl : r.2.1 = 3) (hQ : (r.1 : Int) + off = (a : Int)) (hH : y_H φ R W β h) (hL : y_gL W β L Ls) (hS : y_gS W β Ls st sts) (e : y_q21 full r t L st a (s_cdn cd) = some Xs) (hN : y_N φ R P W β Xs) : P (r.1, Ls, sts, 0, 0, h) := by
  unfold y_q21 at e
  split at e
  next x rest =>
    obtain ⟨h1, h2⟩ := s_bif e
    obtain ⟨v, vs, rfl, hg, hp, hS'⟩ := y_gS_cons hS
    obtain ⟨m, rfl, hm⟩ := y_isI_g h1 hg
    have k := y_bra_ok h2 (y_nb_I h1 hm hp) y_nb_0 hH hL hS' hN
    rw [hl] at k
    refine hcl _ ⟨_, _, hd, Or.inr (Or.inr (Or.inl (Or.inr (Or.inl ⟨_, _, _, _, _, rfl, rfl, hQ, rfl, ?_⟩))))⟩
    rw [h_c1]
    exact k
  next => cases e
theorem y_q22_ok (hcl : ∀ S, g_pre CALL o nL ini bc bs cc P S → P S) {cd : ClassFile.Cond} {off : Int} (hd : decode cc r.1 = .ok (.if_icmp cd off, 3)) (hl : r.2.1 = 3) (hQ : (r.1 : Int) + off = (a : Int)) (hH : y_H φ R W β h) (hL : y_gL W β L Ls) (hS : y_gS W β Ls st sts) (e : y_q22 full r t L st a (s_cdn cd) = some Xs) (hN : y_N φ R P W β Xs) : P (r.1, Ls, sts, 0, 0, h) := by
  unfold y_q22 at e
  split at e
  next y x rest =>
    obtain ⟨h1, h2⟩ := s_bif e
    rw [Bool.and_eq_true] at h1
    obtain ⟨v, vs, rfl, hg, hp, hS'⟩ := y_gS_cons hS
    obtain ⟨u, us, rfl, hg2, hp2, hS2⟩ := y_gS_cons hS'
    obtain ⟨n, rfl, hn⟩ := y_isI_g h1.2 hg
    obtain ⟨m, rfl, hm⟩ := y_isI_g h1.1 hg2
    have k := y_bra_ok h2 (y_nb_I h1.1 hm hp2) (y_nb_I h1.2 hn hp) hH hL hS2 hN
    rw [hl] at k
    refine hcl _ ⟨_, _, hd, Or.inr (Or.inr (Or.inl (Or.inr (Or.inr (Or.inl ⟨_, _, _, _, _, _, rfl, rfl, hQ, rfl, ?_⟩)))))⟩
    rw [h_c2]
    exact k
  next => cases e
theorem y_q20_ok (hcl : ∀ S, g_pre CALL o nL ini bc bs cc P S → P S) {off : Int} (hd : decode cc pc = .ok (.goto off, 3)) (hQ : (pc : Int) + off = (a : Int)) (hH : y_H φ R W β h) (hL : y_gL W β L Ls) (hS : y_gS W β Ls st sts) (e : y_jmp full a L st = some Xs) (hN : y_N φ R P W β Xs) : P (pc, Ls, sts, 0, 0, h) := by
  unfold y_jmp at e
  split at e
  next t' e1 =>
    cases e
    have k := y_N1 hN hH hL hS
    rw [show s_pc t' = a from (s_jump_mem e1).1] at k
    exact hcl _ ⟨_, _, hd, Or.inr (Or.inr (Or.inl (Or.inl ⟨_, _, rfl, rfl, hQ, k⟩)))⟩
  next => cases e
/-- a comparison of longs, and the branch behind it -/
theorem y_q19_ok (hcl : ∀ S, g_pre CALL o nL ini bc bs cc P S → P S) (hd : decode cc pc = .ok (.lcmp, 1)) (hgo : s_pc t = pc + 1) (hI : ∀ r ∈ t, s_okI cc o r = true) (hH : y_H φ R W β h) (hL : y_gL W β L Ls) (hS : y_gS W β Ls st sts) (e : y_q19 full t L st = some Xs) (hN : y_N φ R P W β Xs) : P (pc, Ls, sts, 0, 0, h) := by
  unfold y_q19 at e
  split at e
  next y x rest =>
    split at e
    next pc2 len q kd a b v ins t' =>
      obtain ⟨h1, h2⟩ := s_bif e
      rw [Bool.and_eq_true, Bool.and_eq_true, Nat.beq_eq] at h1
      obtain ⟨hx1, hy1, rfl⟩ := h1
      obtain ⟨⟨n9, hd2, hlen, hne⟩, hQ, -⟩ := s_okI_eq (hI _ List.mem_cons_self) (by decide)
      have hQ' : ∃ cd off, ins = .ifCond cd off ∧ (pc2 : Int) + off = (a : Int) ∧ s_cdn cd = b := by
        clear hne hlen hd2 h2 e hgo hI
        unfold s_okQ at hQ
        simp only at hQ
        split at hQ
        next cd off =>
          rw [Bool.and_eq_true, decide_eq_true_eq, Nat.beq_eq] at hQ
          exact ⟨cd, off, rfl, hQ.1, hQ.2⟩
        next => cases hQ
      obtain ⟨cd, off, rfl, hq1, rfl⟩ := hQ'
      have hn3 := hne (by decide)
      rw [hn3] at hd2 hlen
      have hpc : pc2 = pc + 1 := hgo
      subst hpc
      obtain ⟨w, ws, rfl, hg, hp, hS'⟩ := y_gS_cons hS
      obtain ⟨u, us, rfl, hg2, hp2, hS2⟩ := y_gS_cons hS'
      obtain ⟨n, rfl, hn⟩ := y_isL_g hy1 hg
      obtain ⟨m, rfl, hm⟩ := y_isL_g hx1 hg2
      have k := y_bra_ok (r := (pc + 1, len, 21, kd, a, s_cdn cd, v, .ifCond cd off)) h2 (y_nb_L hx1 hm hp2) (y_nb_L hy1 hn hp) hH hL hS2 hN
      have hl3 : len = 3 := hlen
      subst hl3
      have k2 : P (pc + 1, Ls, .int (lg_cmp m n) :: us, 0, 0, h) := by
        refine hcl _ ⟨_, _, hd2, Or.inr (Or.inr (Or.inl (Or.inr (Or.inl ⟨_, _, _, _, _, rfl, rfl, hq1, rfl, ?_⟩))))⟩
        rw [h_cl]
        exact k
      exact hcl _ ⟨_, _, hd, Or.inr (Or.inl (Or.inr (Or.inr (Or.inr (Or.inr (Or.inr (Or.inr (Or.inl ⟨_, _, _, rfl, rfl, rfl, k2⟩))))))))⟩
    next => cases e
  next => cases e
/-- null or not -/
theorem y_nul_ok {x : y_T} {rest : List y_T} {tt : Option (List s_I)} (e : y_nul x L rest tt = some Xs) (hx : ¬ x.1.1 = 2) (hH : y_H φ R W β h) (hL : y_gL W β L Ls) (hS : y_gS W β Ls rest sts) (hN : y_N φ R P W β Xs) : ∃ t', tt = some t' ∧ P (s_pc t', Ls, sts, 0, 0, h) := by
  unfold y_nul at e
  have h0 : Nat.beq x.1.1 2 = false := by
    cases e1 : Nat.beq x.1.1 2
    · rfl
    · exact absurd (Nat.beq_eq.mp e1) hx
  rw [h0, cond_false] at e
  cases tt with
  | none => cases e
  | some t' =>
    cases e
    exact ⟨t', rfl, y_N1 hN hH hL hS⟩
theorem y_nnl_ok {x : y_T} {rest : List y_T} {tt : Option (List s_I)} {z : Value} (e : y_nnl x L rest tt = some Xs) (hx : ¬ x.1.1 = 4) (hg : y_g W β (2, x.1.2) z) (hp : x.2 ≠ 0 → y_at β Ls (x.2 - 1) z) (hH : y_H φ R W β h) (hL : y_gL W β L Ls) (hS : y_gS W β Ls rest sts) (hN : y_N φ R P W β Xs) : ∃ t', tt = some t' ∧ P (s_pc t', Ls, sts, 0, 0, h) := by
  unfold y_nnl at e
  have h0 : Nat.beq x.1.1 4 = false := by
    cases e1 : Nat.beq x.1.1 4
    · rfl
    · exact absurd (Nat.beq_eq.mp e1) hx
  rw [h0, cond_false] at e
  cases tt with
  | none => cases e
  | some t' =>
    obtain ⟨v, i⟩ := x
    cases i with
    | zero =>
      cases e
      exact ⟨t', rfl, y_N1 hN hH hL hS⟩
    | succ i =>
      simp only [y_fv_eq, y_upd_eq] at e
      cases e
      exact ⟨t', rfl, y_N1 hN hH (y_gL_upd hL (hp (Nat.succ_ne_zero _)) hg) hS⟩
theorem y_q23_ok (hcl : ∀ S, g_pre CALL o nL ini bc bs cc P S → P S) {off : Int} {nn : Bool} (hd : decode cc r.1 = .ok (if nn = true then .ifnonnull off else .ifnull off, 3)) (hl : r.2.1 = 3) (hQ : (r.1 : Int) + off = (a : Int)) (hH : y_H φ R W β h) (hL : y_gL W β L Ls) (hS : y_gS W β Ls st sts) (e : y_q23 full r t L st a nn = some Xs) (hN : y_N φ R P W β Xs) : P (r.1, Ls, sts, 0, 0, h) := by
  unfold y_q23 at e
  split at e
  next x rest =>
    obtain ⟨h1, h2⟩ := s_bif e
    rw [Bool.and_eq_true, Nat.ble_eq, Nat.ble_eq] at h1
    obtain ⟨z, zs, rfl, hg, hp, hS'⟩ := y_gS_cons hS
    have hz : (z = .null ∧ ¬ x.1.1 = 2) ∨ ((∃ q, z = .ref q) ∧ ¬ x.1.1 = 4 ∧ y_g W β (2, x.1.2) z) := by
      obtain ⟨⟨g, lo, hi, k, c⟩, i⟩ := x
      have hgg : g = 2 ∨ g = 3 ∨ g = 4 := by
        have h11 : 2 ≤ g := h1.1
        have h12 : g ≤ 4 := h1.2
        omega
      rcases hgg with rfl | rfl | rfl
      · obtain ⟨q, ad, e9, hq⟩ := hg
        exact Or.inr ⟨⟨ad, e9⟩, (show ¬ (2 : Nat) = 4 by decide), ⟨q, ad, e9, hq⟩⟩
      · rcases hg with e9 | ⟨q, ad, e9, hq⟩
        · exact Or.inl ⟨e9, (show ¬ (3 : Nat) = 2 by decide)⟩
        · exact Or.inr ⟨⟨ad, e9⟩, (show ¬ (3 : Nat) = 4 by decide), ⟨q, ad, e9, hq⟩⟩
      · exact Or.inl ⟨hg, (show ¬ (4 : Nat) = 2 by decide)⟩
    have jmp : ∀ {t'}, s_jump full a = some t' → s_pc t' = a := fun h => (s_jump_mem h).1
    have nxt : ∀ {t'}, (bif s_go r t then some t else none) = some t' → s_pc t' = r.1 + 3 := fun h => by
      obtain ⟨h3, h4⟩ := s_bif h
      cases h4
      rw [s_go_eq h3, hl]
    cases nn
    · obtain ⟨A, B, e1, e2, rfl⟩ := y_two_ok (show y_two (y_nul x L rest (s_jump full a)) (y_nnl x L rest (bif s_go r t then some t else none)) = some Xs from h2)
      rcases hz with ⟨rfl, hx⟩ | ⟨⟨q, rfl⟩, hx, hg2⟩
      · obtain ⟨t', g1, g2⟩ := y_nul_ok e1 hx hH hL hS' (y_N_l hN)
        rw [jmp g1] at g2
        exact hcl _ ⟨_, _, hd, Or.inr (Or.inr (Or.inl (Or.inr (Or.inr (Or.inr (Or.inl ⟨off, a, 0, _, rfl, rfl, hQ, Or.inl ⟨rfl, g2⟩⟩))))))⟩
      · obtain ⟨t', g1, g2⟩ := y_nnl_ok e2 hx hg2 hp hH hL hS' (y_N_r hN)
        rw [nxt g1] at g2
        exact hcl _ ⟨_, _, hd, Or.inr (Or.inr (Or.inl (Or.inr (Or.inr (Or.inr (Or.inl ⟨off, a, q, _, rfl, rfl, hQ, Or.inr ⟨rfl, g2⟩⟩))))))⟩
    · obtain ⟨A, B, e1, e2, rfl⟩ := y_two_ok (show y_two (y_nnl x L rest (s_jump full a)) (y_nul x L rest (bif s_go r t then some t else none)) = some Xs from h2)
      rcases hz with ⟨rfl, hx⟩ | ⟨⟨q, rfl⟩, hx, hg2⟩
      · obtain ⟨t', g1, g2⟩ := y_nul_ok e2 hx hH hL hS' (y_N_r hN)
        rw [nxt g1] at g2
        exact hcl _ ⟨_, _, hd, Or.inr (Or.inr (Or.inl (Or.inr (Or.inr (Or.inr (Or.inr (Or.inl ⟨off, a, 0, _, rfl, rfl, hQ, Or.inl ⟨rfl, g2⟩⟩)))))))⟩
      · obtain ⟨t', g1, g2⟩ := y_nnl_ok e1 hx hg2 hp hH hL hS' (y_N_l hN)
        rw [jmp g1] at g2
        exact hcl _ ⟨_, _, hd, Or.inr (Or.inr (Or.inl (Or.inr (Or.inr (Or.inr (Or.inr (Or.inl ⟨off, a, q, _, rfl, rfl, hQ, Or.inr ⟨rfl, g2⟩⟩)))))))⟩
  next => cases e
-- the heap
/-- the table of roles is right: names of fields from 200000 on, of objects, each its own; what places hold tells of names from 200000 to 300000 alone -/
def y_glo (k : Nat) : Prop := k = 0 ∨ (200000 ≤ k ∧ k < 300000)
def y_Rok (R : y_R) : Prop := (∀ p ∈ R.2, 200000 ≤ p.1 ∧ ∀ ro, R.1[p.2.1]? = some ro → ro.1 = false) ∧ (∀ p ∈ R.2, ∀ p' ∈ R.2, p.1 = p'.1 ∨ p.2 = p'.2 → p = p') ∧ ∀ ro ∈ R.1, y_glo ro.2.2.2.1 ∧ ∀ v ∈ ro.2.2.2.2, y_glo v.2.2.2.1 ∧ y_glo v.2.2.2.2.2.1
theorem y_sp_glo (hR : y_Rok R) {r : Nat} {ro : y_R1} (hr : R.1[r]? = some ro) (j : Nat) : y_glo (y_sp ro j).2.2.2.1 ∧ y_glo (y_sp ro j).2.2.2.2.2.1 := by
  have h1 := (hR.2.2 ro (List.mem_of_getElem? hr)).2
  unfold y_sp
  rw [List.getD_eq_getElem?_getD]
  cases e : ro.2.2.2.2[j]? with
  | none => exact ⟨Or.inl rfl, Or.inl rfl⟩
  | some v => exact h1 v (List.mem_of_getElem? e)
theorem y_spj_cases (β : Nat → Int) (ro : y_R1) (j : Nat) : ∃ i, y_spj β ro j = y_sp ro i := by
  unfold y_spj
  split
  · split
    · exact ⟨_, rfl⟩
    · exact ⟨_, rfl⟩
  · exact ⟨_, rfl⟩
/-- places hold the same where the names that they tell of stand for the same -/
theorem y_spj_b (hR : y_Rok R) {β' : Nat → Int} (hb : ∀ k, 200000 ≤ k → k < 300000 → β' k = β k) {r : Nat} {ro : y_R1} (hr : R.1[r]? = some ro) {j : Nat} {x : Value} (h : y_g W β (y_spj β ro j) x) : y_g W β' (y_spj β' ro j) x := by
  have e : y_spj β' ro j = y_spj β ro j := by
    have hl := (hR.2.2 ro (List.mem_of_getElem? hr)).1
    unfold y_spj
    rcases hl with hl | hl
    · simp only [hl, true_or, if_true]
    · rw [hb _ hl.1 hl.2]
  rw [e]
  obtain ⟨i, ei⟩ := y_spj_cases β ro j
  rw [ei] at h ⊢
  obtain ⟨g1, g2⟩ := y_sp_glo hR hr i
  refine y_same_g (fun h0 => ?_) (fun h0 => ?_) h
  · rcases g1 with g1 | g1
    · exact absurd g1 h0
    · exact hb _ g1.1 g1.2
  · rcases g2 with g2 | g2
    · exact absurd g2 h0
    · exact hb _ g2.1 g2.2
/-- a heap under other numbers of names that are no field's -/
theorem y_H_b (hR : y_Rok R) {β' : Nat → Int} (hb : ∀ k, 200000 ≤ k → β' k = β k) (hH : y_H φ R W β h) : y_H φ R W β' h := by
  refine ⟨hH.1, fun q a r hq => ?_, fun p hp => ?_⟩
  · obtain ⟨ro, f, h1, h2, h3⟩ := hH.2.1 q a r hq
    exact ⟨ro, f, h1, h2, fun j hj => (h3 j hj).imp id (fun h => ⟨y_spj_b hR (fun k h1 _ => hb k h1) h1 h.1, h.2⟩)⟩
  · obtain ⟨u, q, a, ro, f, n, h1, h2, h3, h4, h5⟩ := hH.2.2 p hp
    exact ⟨u, q, a, ro, f, n, h1, h2, h3, h4, by rw [hb _ (hR.1 p hp).1]; exact h5⟩
theorem y_nf_eq {o : Option y_R1} {ro : y_R1} (e : y_nf o = some ro) : o = some ro ∧ ro.2.2.2.2 ≠ [] := by
  unfold y_nf at e
  split at e
  next ro' =>
    split at e
    next => cases e
    next hne => cases e; exact ⟨rfl, by rw [hne]; exact fun h => by cases h⟩
  next => cases e
theorem y_ro_ok {u : y_T} {ro : y_R1} (e : y_ro R u = some ro) {x : Value} (hg : y_g W β u.1 x) (hH : y_H φ R W β h) : ∃ q ad f, x = .ref ad ∧ W[q]? = some (ad, u.1.2.1.toNat) ∧ g_get h q = some (ad, ro.1, ro.2.1, ro.2.2.1, f) ∧ ∀ j, j < ro.2.2.1 → y_g W β (y_spj β ro j) (f j) := by
  unfold y_ro at e
  obtain ⟨h1, h2⟩ := s_bif e
  obtain ⟨h2, h4⟩ := y_nf_eq h2
  obtain ⟨⟨g, lo, hi, k, c⟩, i⟩ := u
  have hgg : g = 2 := Nat.beq_eq.mp h1
  subst hgg
  obtain ⟨q, ad, rfl, hq⟩ := hg
  obtain ⟨ro', f, e1, e2, e3⟩ := hH.2.1 q ad _ hq
  have e4 : ro' = ro := Option.some.inj (e1.symm.trans h2)
  subst e4
  exact ⟨q, ad, f, rfl, hq, e2, fun j hj => ((e3 j hj).resolve_left (fun h => h4 h.1)).1⟩
theorem y_ro_R {u : y_T} {ro : y_R1} (e : y_ro R u = some ro) : R.1[u.1.2.1.toNat]? = some ro := by
  unfold y_ro at e
  exact (y_nf_eq (s_bif e).2).1
/-- a place written: any but a named field -/
theorem y_H_set (hH : y_H φ R W β h) {q ad r : Nat} {ro : y_R1} {f f' : Nat → Value} (hq : W[q]? = some (ad, r)) (hr : R.1[r]? = some ro) (hget : h[q]? = some (ad, ro.1, ro.2.1, ro.2.2.1, f)) (hT : ∀ p ∈ R.2, p.2.1 = r → f' p.2.2 = f p.2.2) (hf : ∀ j, j < ro.2.2.1 → y_g W β (y_spj β ro j) (f' j)) (hro : y_rov ro = false := by rfl) : y_H φ R W β (h.set q (ad, ro.1, ro.2.1, ro.2.2.1, f')) := by
  have hl : q < h.length := by
    rw [hH.1]
    exact (List.getElem?_eq_some_iff.mp hq).1
  refine ⟨by rw [List.length_set]; exact hH.1, fun q2 ad2 r2 hq2 => ?_, fun p hp => ?_⟩
  · by_cases e : q = q2
    · subst e
      rw [hq] at hq2
      cases hq2
      exact ⟨ro, f', hr, List.getElem?_set_self hl, fun j hj => Or.inr ⟨hf j hj, fun h => by rw [hro] at h; cases h⟩⟩
    · obtain ⟨ro2, f2, g1, g2, g3⟩ := hH.2.1 q2 ad2 r2 hq2
      exact ⟨ro2, f2, g1, by rw [List.getElem?_set_ne e]; exact g2, g3⟩
  · obtain ⟨u, q2, a2, ro2, f2, n, h1, h2, h3, h4, h5⟩ := hH.2.2 p hp
    refine ⟨u, ?_⟩
    by_cases e : q = q2
    · subst e
      rw [hq] at h1
      have e1 := (Prod.mk.injEq _ _ _ _).mp (Option.some.inj h1)
      have e2 : ro = ro2 := Option.some.inj (hr.symm.trans (e1.2 ▸ h2))
      subst e2
      have e3 : f = f2 := by
        have := Option.some.inj (hget.symm.trans h3)
        simp only [Prod.mk.injEq] at this
        exact this.2.2.2.2
      subst e3
      exact ⟨q, ad, ro, f', n, by rw [hq, e1.2], by rw [← e1.2]; exact hr, List.getElem?_set_self hl, by rw [hT p hp e1.2.symm]; exact h4, h5⟩
    · exact ⟨q2, a2, ro2, f2, n, h1, h2, by rw [List.getElem?_set_ne e]; exact h3, h4, h5⟩
theorem y_nm_0 {r j : Nat} : ∀ {T : List (Nat × Nat × Nat)}, (∀ p ∈ T, 200000 ≤ p.1) → y_nm T r j = 0 → ∀ p ∈ T, p.2.1 = r → p.2.2 ≠ j
  | [], _, _, p, hp, _ => by cases hp
  | (i, r', j') :: T, h0, e, p, hp, hr => by
    rw [y_nm] at e
    cases e1 : (Nat.beq r' r && Nat.beq j' j)
    · rw [e1, cond_false] at e
      rcases List.mem_cons.mp hp with rfl | hp
      · intro hj
        have hr' : r' = r := hr
        have hj' : j' = j := hj
        subst hr' hj'
        have hb : ∀ k : Nat, Nat.beq k k = true := fun k => Nat.beq_eq.mpr rfl
        rw [hb, hb] at e1
        cases e1
      · exact y_nm_0 (fun p hp => h0 p (List.mem_cons_of_mem _ hp)) e p hp hr
    · rw [e1, cond_true] at e
      have := h0 _ List.mem_cons_self
      subst e
      exact absurd this (show ¬ 200000 ≤ 0 by decide)
theorem y_nm_in {r j i : Nat} : ∀ {T : List (Nat × Nat × Nat)}, y_nm T r j = i + 1 → (i + 1, r, j) ∈ T
  | [], e => by cases e
  | (i', r', j') :: T, e => by
    rw [y_nm] at e
    cases e1 : (Nat.beq r' r && Nat.beq j' j)
    · rw [e1, cond_false] at e
      exact List.mem_cons_of_mem _ (y_nm_in e)
    · rw [e1, cond_true] at e
      rw [Bool.and_eq_true, Nat.beq_eq, Nat.beq_eq] at e1
      obtain ⟨rfl, rfl⟩ := e1
      subst e
      exact List.mem_cons_self
/-- a named field's number -/
theorem y_nm_ok (hH : y_H φ R W β h) {q ad r i j : Nat} {ro : y_R1} {f : Nat → Value} (hp : (i, r, j) ∈ R.2) (hq : W[q]? = some (ad, r)) (hr : R.1[r]? = some ro) (hget : h[q]? = some (ad, ro.1, ro.2.1, ro.2.2.1, f)) : ∃ n : Int32, f j = .int n ∧ n.toInt = β i := by
  obtain ⟨u, q2, a2, ro2, f2, n, h1, h2, h3, h4, h5⟩ := hH.2.2 _ hp
  have e := u q q2 ad a2 hq h1
  subst e
  rw [hq] at h1
  have e2 : ro = ro2 := Option.some.inj (hr.symm.trans h2)
  subst e2
  have e3 : f = f2 := by
    have := Option.some.inj (hget.symm.trans h3)
    simp only [Prod.mk.injEq] at this
    exact this.2.2.2.2
  subst e3
  exact ⟨n, h4, h5⟩
theorem y_q26_ok (hcl : ∀ S, g_pre CALL o nL ini bc bs cc P S → P S) (hRo : y_Rok R) {i kd : Nat} {v0 : Int} (hd : decode cc pc = .ok (.getfield i, 3)) (hgo : s_pc t = pc + 3) (hlk : s_lkd o i kd a b v0) (hH : y_H φ R W β h) (hL : y_gL W β L Ls) (hS : y_gS W β Ls st sts) (e : y_q26 R t L st kd a b = some Xs) (hN : y_N φ R P W β Xs) : P (pc, Ls, sts, 0, 0, h) := by
  obtain ⟨ps, hlk⟩ := hlk
  unfold y_q26 at e
  split at e
  next u rest =>
    split at e
    next ro e1 =>
      obtain ⟨h1, h2⟩ := s_bif e
      simp only [Bool.and_eq_true, Nat.beq_eq, Nat.blt_eq, Bool.not_eq_true', Nat.ble_eq] at h1
      obtain ⟨k1, k2, k3, k4⟩ := h1
      obtain ⟨x, xs, rfl, hg, -, hS'⟩ := y_gS_cons hS
      obtain ⟨q, ad, f, rfl, hq, hget, hf⟩ := y_ro_ok e1 hg hH
      have hR := y_ro_R e1
      have hfb := hf b k4
      have esp : y_spj β ro b = y_sp ro b := by
        unfold y_spj
        rw [k2]
        rfl
      rw [esp] at hfb
      have hk' : kd = 0 ∨ kd = 1 := by omega
      have k : P (pc + 3, Ls, f b :: xs, 0, 0, h) := by
        rw [← hgo]
        split at h2
        next e0 =>
          cases h2
          exact y_N1 hN hH hL (sts := f b :: xs) ⟨⟨hfb, fun h => absurd rfl h⟩, hS'⟩
        next i0 e0 =>
          have hin := y_nm_in e0
          obtain ⟨n, en, hn⟩ := y_nm_ok hH hin hq hR hget
          have hi := (hRo.1 _ hin).1
          have hat : y_at β Ls (i0 + 1) (.int n) := ⟨fun h0 => absurd hi (Nat.not_le.mpr h0), fun _ => ⟨n, rfl, hn⟩⟩
          obtain ⟨h3, h4⟩ := s_bif h2
          rw [en] at hfb ⊢
          split at h4
          next v ev =>
            obtain ⟨h5, h6⟩ := s_bif h4
            rw [s_fn_eq, y_fv_eq] at h6
            cases h6
            obtain ⟨x', hx', hg'⟩ := hL _ (y_find_in ev)
            obtain ⟨n', rfl, hn'⟩ := hx'.2 hi
            have enn : n' = n := Int32.toInt_inj.mp (hn'.trans hn.symm)
            subst enn
            obtain ⟨m, em, b1, b2, b3⟩ := y_isI_g h5 hg'
            cases em
            exact y_N1 hN hH hL (sts := .int n' :: xs) ⟨⟨y_red_ok hL (v := (0, v.2.1, v.2.2.1, bif Nat.ble 300000 (i0 + 1) && !Nat.beq v.2.2.2.1 0 then v.2.2.2 else (i0 + 1, 0, v.2.2.2.2.2))) ⟨n', rfl, b1, b2, by
              cases (Nat.ble 300000 (i0 + 1) && !Nat.beq v.2.2.2.1 0)
              · exact ⟨fun _ => by show n'.toInt = β (i0 + 1) + 0; omega, b3.2⟩
              · exact b3⟩, fun _ => hat⟩, hS'⟩
          next ev =>
            rw [s_fn_eq] at h4
            cases h4
            obtain ⟨m, em, b1, b2, b3⟩ := y_isI_g h3 hfb
            cases em
            have hv : y_g W β (0, (y_sp ro b).2.1, (y_sp ro b).2.2.1, i0 + 1, 0, 0, 0) (.int n) := ⟨n, rfl, b1, b2, fun _ => by show n.toInt = β (i0 + 1) + 0; omega, fun h0 => absurd rfl h0⟩
            refine y_N1 hN hH (sts := .int n :: xs) (fun p hp => ?_) ⟨⟨hv, fun _ => hat⟩, hS'⟩
            rcases List.mem_cons.mp hp with rfl | hp
            · exact ⟨_, hat, hv⟩
            · exact hL p hp
      obtain ⟨isA, kind, n, l⟩ := ro
      have k2' : isA = false := k2
      have k3' : kind = a := k3
      subst k2' k3'
      exact hcl _ ⟨_, _, hd, Or.inr (Or.inr (Or.inr (Or.inl (Or.inl ⟨_, _, _, _, _, _, q, ad, n, f, xs, rfl, rfl, hk', hlk, rfl, hget, k4, k⟩))))⟩
    next => cases e
  next => cases e
-- a name's number changes
def y_up (β : Nat → Int) (i : Nat) (n : Int) : Nat → Int := fun k => if k = i then n else β k
theorem y_up_ne {i k : Nat} {n : Int} (h : ¬ k = i) : y_up β i n k = β k := if_neg h
theorem y_up_eq {i : Nat} {n : Int} : y_up β i n i = n := if_pos rfl
theorem y_beq_ne {i j : Nat} (h : Nat.beq i j = false) : ¬ i = j := fun e => by
  rw [e, Nat.beq_eq.mpr rfl] at h
  cases h
theorem y_fgq_ok {i : Nat} {n : Int} {r : y_Q} {m : Int} (h : y_rl β r m) : y_rl (y_up β i n) (y_fgq i r) m := by
  obtain ⟨k, c, k2, c2⟩ := r
  unfold y_fgq
  cases e1 : Nat.beq k i
  · have n1 := y_beq_ne e1
    cases e2 : Nat.beq k2 i
    · have n2 := y_beq_ne e2
      exact y_same_r (fun _ => y_up_ne n1) (fun _ => y_up_ne n2) h
    · refine ⟨fun h0 => ?_, fun h0 => absurd rfl h0⟩
      have := h.1 h0
      show m = y_up β i n k + c
      rw [y_up_ne n1]
      exact this
  · cases e2 : Nat.beq k2 i
    · have n2 := y_beq_ne e2
      refine ⟨fun h0 => absurd rfl h0, fun h0 => ?_⟩
      have := h.2 h0
      show m ≤ y_up β i n k2 + c2
      rw [y_up_ne n2]
      exact this
    · exact y_rl_z _
theorem y_fgv_ok {i : Nat} {n : Int} {v : y_V} {x : Value} (h : y_g W β v x) : y_g W (y_up β i n) (y_fgv i v) x := by
  obtain ⟨t, lo, hi, r⟩ := v
  match t, h with
  | 0, ⟨n, e, b1, b2, b3⟩ => exact ⟨n, e, b1, b2, y_fgq_ok b3⟩
  | 1, ⟨n, e, b1, b2, b3⟩ => exact ⟨n, e, b1, b2, y_fgq_ok b3⟩
  | 2, h => exact h
  | 3, h => exact h
  | 4, h => exact h
def y_fgl (i : Nat) (L : y_L) : y_L := (L.filter (fun q => !(q.1 == i))).map (fun q => (q.1, y_fgv i q.2))
def y_fgs (i : Nat) (st : List y_T) : List y_T := st.map (fun t => (y_fgv i t.1, bif Nat.beq t.2 (i + 1) then 0 else t.2))
theorem y_fgL_eq {α : Type} (i : Nat) : ∀ (L : y_L) (k : y_L → α), y_fgL i L k = k (y_fgl i L)
  | [], _ => rfl
  | (j, v) :: t, k => by
    have e1 : Nat.beq j i = (j == i) := s_beq _ _
    rw [y_fgL, e1]
    unfold y_fgl
    rw [List.filter_cons]
    cases e2 : (j == i)
    · simp only [cond_false, y_fv_eq, y_fgL_eq i t, Bool.not_false, if_true, List.map_cons]
      rfl
    · simp only [cond_true, y_fgL_eq i t, Bool.not_true, Bool.false_eq_true, if_false]
      rfl
theorem y_fgS_eq {α : Type} (i : Nat) : ∀ (st : List y_T) (k : List y_T → α), y_fgS i st k = k (y_fgs i st)
  | [], _ => rfl
  | (v, j) :: t, k => by
    rw [y_fgS, y_fv_eq, y_fgS_eq i t]
    rfl
theorem y_at_up {i k : Nat} {n : Int} {x : Value} (hk : ¬ k = i) (h : y_at β Ls k x) : y_at (y_up β i n) Ls k x := ⟨h.1, fun h0 => by rw [y_up_ne hk]; exact h.2 h0⟩
theorem y_fgl_ok {i : Nat} {n : Int} (hL : y_gL W β L Ls) : y_gL W (y_up β i n) (y_fgl i L) Ls := by
  intro q hq
  obtain ⟨p, hp, rfl⟩ := List.mem_map.mp hq
  obtain ⟨hp1, hp2⟩ := List.mem_filter.mp hp
  obtain ⟨x, hx, hg⟩ := hL p hp1
  refine ⟨x, y_at_up (fun e => ?_) hx, y_fgv_ok hg⟩
  rw [e] at hp2
  simp at hp2
theorem y_fgs_ok {i : Nat} {n : Int} : ∀ {st : List y_T} {sts : List Value}, y_gS W β Ls st sts → y_gS W (y_up β i n) Ls (y_fgs i st) sts
  | [], [], _ => trivial
  | [], _ :: _, h => h.elim
  | _ :: _, [], h => h.elim
  | t :: ts, x :: xs, h => by
    refine ⟨⟨y_fgv_ok h.1.1, ?_⟩, y_fgs_ok h.2⟩
    show (bif Nat.beq t.2 (i + 1) then 0 else t.2) ≠ 0 → y_at (y_up β i n) Ls ((bif Nat.beq t.2 (i + 1) then 0 else t.2) - 1) x
    cases e : Nat.beq t.2 (i + 1)
    · intro h0
      have h0' : t.2 ≠ 0 := h0
      have hne := y_beq_ne e
      exact y_at_up (by show ¬ t.2 - 1 = i; omega) (h.1.2 h0')
    · intro h0
      exact absurd rfl h0
/-- a named field written -/
theorem y_H_put (hRo : y_Rok R) (hH : y_H φ R W β h) {q ad r i b : Nat} {ro : y_R1} {f : Nat → Value} {z : Int32} (hi : 300000 ≤ i) (hp : (i, r, b) ∈ R.2) (hq : W[q]? = some (ad, r)) (hr : R.1[r]? = some ro) (hget : h[q]? = some (ad, ro.1, ro.2.1, ro.2.2.1, f)) (hf : ∀ j, j < ro.2.2.1 → y_g W β (y_spj β ro j) (g_up f b (.int z) j)) (hro : y_rov ro = false) : y_H φ R W (y_up β i z.toInt) (h.set q (ad, ro.1, ro.2.1, ro.2.2.1, g_up f b (.int z))) := by
  have hl : q < h.length := by
    rw [hH.1]
    exact (List.getElem?_eq_some_iff.mp hq).1
  have hb : ∀ k, 200000 ≤ k → k < 300000 → y_up β i z.toInt k = β k := fun k _ hk => y_up_ne (by omega)
  refine ⟨by rw [List.length_set]; exact hH.1, fun q2 ad2 r2 hq2 => ?_, fun p hp2 => ?_⟩
  · by_cases e : q = q2
    · subst e
      rw [hq] at hq2
      cases hq2
      exact ⟨ro, _, hr, List.getElem?_set_self hl, fun j hj => Or.inr ⟨y_spj_b hRo hb hr (hf j hj), fun h => by rw [hro] at h; cases h⟩⟩
    · obtain ⟨ro2, f2, g1, g2, g3⟩ := hH.2.1 q2 ad2 r2 hq2
      exact ⟨ro2, f2, g1, by rw [List.getElem?_set_ne e]; exact g2, fun j hj => (g3 j hj).imp id (fun h => ⟨y_spj_b hRo hb g1 h.1, h.2⟩)⟩
  · obtain ⟨u, q2, a2, ro2, f2, n, h1, h2, h3, h4, h5⟩ := hH.2.2 p hp2
    refine ⟨u, ?_⟩
    by_cases ep : p.1 = i
    · have e0 : p = (i, r, b) := hRo.2.1 p hp2 _ hp (Or.inl ep)
      subst e0
      exact ⟨q, ad, ro, _, z, hq, hr, List.getElem?_set_self hl, if_pos rfl, y_up_eq.symm⟩
    · rw [y_up_ne ep]
      by_cases e : q = q2
      · subst e
        rw [hq] at h1
        have e1 := (Prod.mk.injEq _ _ _ _).mp (Option.some.inj h1)
        have e2 : ro = ro2 := Option.some.inj (hr.symm.trans (e1.2 ▸ h2))
        subst e2
        have e3 : f = f2 := by
          have := Option.some.inj (hget.symm.trans h3)
          simp only [Prod.mk.injEq] at this
          exact this.2.2.2.2
        subst e3
        by_cases ej : p.2.2 = b
        · exact absurd (congrArg Prod.fst (hRo.2.1 p hp2 _ hp (Or.inr (Prod.ext e1.2.symm ej)))) ep
        · exact ⟨q, ad, ro, _, n, by rw [hq, e1.2], by rw [← e1.2]; exact hr, List.getElem?_set_self hl, by unfold g_up; rw [if_neg ej]; exact h4, h5⟩
      · exact ⟨q2, a2, ro2, f2, n, h1, h2, by rw [List.getElem?_set_ne e]; exact h3, h4, h5⟩
theorem y_q27_ok (hcl : ∀ S, g_pre CALL o nL ini bc bs cc P S → P S) (hRo : y_Rok R) {ft : s_FT} (hft : s_ftok ft) {i kd : Nat} {v0 : Int} (hd : decode cc pc = .ok (.putfield i, 3)) (hgo : s_pc t = pc + 3) (hlk : s_lkd o i kd a b v0) (hH : y_H φ R W β h) (hL : y_gL W β L Ls) (hS : y_gS W β Ls st sts) (e : y_q27 R ft t L st kd a b = some Xs) (hN : y_N φ R P W β Xs) : P (pc, Ls, sts, 0, 0, h) := by
  obtain ⟨ps, hlk⟩ := hlk
  unfold y_q27 at e
  split at e
  next v u rest =>
    split at e
    next ro e1 =>
      split at e
      next ty fin e2 =>
        obtain ⟨h1, h2⟩ := s_bif e
        simp only [Bool.and_eq_true, Nat.beq_eq, Nat.blt_eq, Bool.not_eq_true', Nat.ble_eq] at h1
        obtain ⟨k1, k2, k3, k4, k6, k7, k8⟩ := h1
        obtain ⟨x, xs, rfl, hg, -, hS'⟩ := y_gS_cons hS
        obtain ⟨y, ys, rfl, hg2, -, hS2⟩ := y_gS_cons hS'
        have hR := y_ro_R e1
        obtain ⟨q, ad, f, rfl, hq, hget, hf⟩ := y_ro_ok e1 hg2 hH
        have hty : ty < 4 := by
          unfold y_fok at k7
          split at k7 <;> first | decide | cases k7
        obtain ⟨f1, T, f2, f3⟩ := hft a b ty fin e2 hty
        have hnv : narrow T x = x ∧ fits T x = true := by
          match ty, k7, f3 with
          | 0, k7, f3 =>
            obtain ⟨z, ez, -⟩ := y_isI_g k7 hg
            have f3' : T = .int := f3
            subst f3'; rw [ez]; exact ⟨rfl, rfl⟩
          | 1, k7, f3 =>
            obtain ⟨z, ez, -⟩ := y_isL_g k7 hg
            have f3' : T = .long := f3
            subst f3'; rw [ez]; exact ⟨rfl, rfl⟩
          | 2, k7, f3 =>
            have k7' : (Nat.beq v.1.1 0 && (decide (0 ≤ v.1.2.1) && decide (v.1.2.2.1 ≤ 1))) = true := k7
            rw [Bool.and_eq_true, Bool.and_eq_true, decide_eq_true_eq, decide_eq_true_eq] at k7'
            obtain ⟨z, ez, hz⟩ := y_isI_g k7'.1 hg
            have f3' : T = .boolean := f3
            subst f3'
            have z1 := hz.1
            have z2 := hz.2.1
            have h0 : (0 : Int32).toInt = 0 := rfl
            have h1 : (1 : Int32).toInt = 1 := rfl
            have hx : z = 0 ∨ z = 1 := by
              rcases (show z.toInt = 0 ∨ z.toInt = 1 by omega) with h | h
              · exact Or.inl (Int32.toInt_inj.mp (h.trans h0.symm))
              · exact Or.inr (Int32.toInt_inj.mp (h.trans h1.symm))
            rcases hx with rfl | rfl <;> rw [ez] <;> exact ⟨rfl, rfl⟩
          | 3, k7, f3 =>
            have hk : y_tk 2 v.1 = true := k7
            rcases (y_tk_g hk hg).2.2 (by decide) with ez | ⟨z, ez⟩ <;> rw [ez] <;> rcases f3 with ⟨w, rfl⟩ | ⟨w, rfl⟩ <;> exact ⟨rfl, rfl⟩
          | _ + 4, k7, f3 => cases k7
        have hv : y_g W β (y_sp ro b) x := y_le_ok k6 hg
        have esp : y_spj β ro b = y_sp ro b := by
          unfold y_spj
          rw [k2]
          rfl
        have hf2 : ∀ j, j < ro.2.2.1 → y_g W β (y_spj β ro j) (g_up f b x j) := fun j hj => by
          unfold g_up
          by_cases hjb : j = b
          · rw [if_pos hjb, hjb, esp]
            exact hv
          · rw [if_neg hjb]
            exact hf j hj
        have hk' : kd = 0 ∨ kd = 1 := by omega
        have k : P (pc + 3, Ls, ys, 0, 0, h.set q (ad, ro.1, ro.2.1, ro.2.2.1, g_up f b x)) := by
          rw [← hgo]
          split at h2
          next e0 =>
            cases h2
            refine y_N1 hN (y_H_set hH hq hR hget (fun p hp hpr => ?_) hf2 (y_rov_o k2)) hL hS2
            have := y_nm_0 (fun p hp => (hRo.1 p hp).1) e0 p hp hpr
            unfold g_up
            rw [if_neg this]
          next i0 e0 =>
            have hin := y_nm_in e0
            obtain ⟨h3, h4⟩ := s_bif h2
            rw [Bool.and_eq_true, Nat.ble_eq] at h3
            rw [s_fn_eq, y_fv_eq, y_fgL_eq, y_fgS_eq] at h4
            cases h4
            obtain ⟨z, rfl, hz⟩ := y_isI_g h3.2 hg
            refine hN _ List.mem_cons_self (y_up β (i0 + 1) z.toInt) _ Ls ys (fun k hk => y_up_ne (by omega)) (y_H_put hRo hH h3.1 hin hq hR hget hf2 (y_rov_o k2)) (fun p hp => ?_) (y_fgs_ok hS2)
            rcases List.mem_cons.mp hp with rfl | hp
            · exact ⟨.int z, ⟨fun h0 => absurd h3.1 (by have h9 : i0 + 1 < 200000 := h0; omega), fun _ => ⟨z, rfl, y_up_eq.symm⟩⟩, y_fgv_ok hg⟩
            · exact y_fgl_ok hL p hp
        obtain ⟨isA, kind, n, l⟩ := ro
        have k2' : isA = false := k2
        have k3' : kind = a := k3
        subst k2' k3'
        exact hcl _ ⟨_, _, hd, Or.inr (Or.inr (Or.inr (Or.inl (Or.inr (Or.inl ⟨_, _, _, _, _, _, q, ad, n, f, x, T, ys, rfl, rfl, hk', hlk, rfl, hget, k4, Or.inl (f1.trans k8), f2, hnv.1, hnv.2, k⟩)))))⟩
    next => cases e
  next => cases e
theorem y_q28_ok (hcl : ∀ S, g_pre CALL o nL ini bc bs cc P S → P S) (hd : decode cc pc = .ok (.arraylength, 1)) (hgo : s_pc t = pc + 1) (hH : y_H φ R W β h) (hL : y_gL W β L Ls) (hS : y_gS W β Ls st sts) (e : y_q28 R t L st = some Xs) (hN : y_N φ R P W β Xs) : P (pc, Ls, sts, 0, 0, h) := by
  unfold y_q28 at e
  split at e
  next u rest =>
    split at e
    next ro e1 =>
      obtain ⟨h1, h2⟩ := s_bif e
      simp only [Bool.and_eq_true, Nat.blt_eq, Nat.ble_eq] at h1
      obtain ⟨k1, k2, k3⟩ := h1
      rw [s_fi_eq] at h2
      cases h2
      obtain ⟨x, xs, rfl, hg, -, hS'⟩ := y_gS_cons hS
      obtain ⟨q, ad, f, rfl, hq, hget, hf⟩ := y_ro_ok e1 hg hH
      obtain ⟨isA, kind, n, l⟩ := ro
      have k1' : isA = true := k1
      subst k1'
      have k3' : n ≤ 2147483647 := k3
      have hn : y_g W β (0, (n : Int), (n : Int), y_z) (.int (Int32.ofInt (n : Int))) := y_in32_g (by
        unfold y_in32
        rw [Bool.and_eq_true, decide_eq_true_eq, decide_eq_true_eq]
        omega)
      have k := y_N1 hN hH hL (sts := .int (Int32.ofInt (n : Int)) :: xs) ⟨⟨hn, fun h => absurd rfl h⟩, hS'⟩
      rw [show s_pc t = pc + 1 from hgo] at k
      exact hcl _ ⟨_, _, hd, Or.inr (Or.inr (Or.inr (Or.inl (Or.inr (Or.inr (Or.inr (Or.inr (Or.inr (Or.inr (Or.inr (Or.inr (Or.inr (Or.inr (Or.inr (Or.inl ⟨q, ad, kind, n, f, xs, rfl, rfl, rfl, k2, hget, k⟩)))))))))))))))⟩
    next => cases e
  next => cases e
theorem y_inb_ok {v : y_V} {n : Nat} (hi : y_inb v n = true) {x : Value} (hg : y_g W β v x) : ∃ j : Int32, x = .int j ∧ vp_in j n ∧ j.toNatClampNeg < n := by
  unfold y_inb at hi
  rw [Bool.and_eq_true, Bool.and_eq_true, decide_eq_true_eq, decide_eq_true_eq] at hi
  obtain ⟨j, rfl, hj⟩ := y_isI_g hi.1 hg
  have j1 := hj.1
  have j2 := hj.2.1
  refine ⟨j, rfl, vp_in_iff.mpr ⟨by omega, by omega⟩, ?_⟩
  show j.toInt.toNat < n
  omega
/-- a place ahead of the number that the name stands for -/
theorem y_ahd_ok {lim : Nat} {j : y_V} {n : Int} (h : y_ahd lim j = true) (hn : y_rl β j.2.2.2 n) : lim = 0 ∨ n < β lim := by
  unfold y_ahd at h
  simp only [Bool.or_eq_true, Bool.and_eq_true, Nat.beq_eq, decide_eq_true_eq] at h
  by_cases h0 : lim = 0
  · exact Or.inl h0
  rcases h with h | ⟨h1, h2⟩ | ⟨h1, h2⟩
  · exact absurd h h0
  · have := hn.1 (by rw [h1]; exact h0)
    rw [h1] at this
    exact Or.inr (by omega)
  · have := hn.2 (by rw [h1]; exact h0)
    rw [h1] at this
    exact Or.inr (by omega)
theorem y_rd_ok {ro : y_R1} {j : y_V} {i : Int32} {x : Value} (h1 : ro.1 = true) (hb : y_inb j ro.2.2.1 = true) (hj : y_g W β j (.int i)) (hx : y_g W β (y_spj β ro i.toNatClampNeg) x) : y_rd ro j = y_no ∨ y_g W β (y_rd ro j) x := by
  unfold y_inb at hb
  rw [Bool.and_eq_true, Bool.and_eq_true, decide_eq_true_eq, decide_eq_true_eq] at hb
  obtain ⟨m, em, hm⟩ := y_isI_g hb.1 hj
  cases em
  have hc : (i.toNatClampNeg : Int) = i.toInt := by
    have := hm.1
    show (i.toInt.toNat : Int) = i.toInt
    omega
  unfold y_rd
  cases e : y_ahd ro.2.2.2.1 j
  · rw [cond_false]
    cases e2 : y_le (y_sp ro 0) (y_sp ro 1)
    · exact Or.inl rfl
    · rw [cond_true]
      right
      unfold y_spj at hx
      rw [if_pos h1] at hx
      split at hx
      · exact y_le_ok e2 hx
      · exact hx
  · rw [cond_true]
    right
    have := y_ahd_ok e hm.2.2
    rw [← hc] at this
    unfold y_spj at hx
    rw [if_pos h1, if_pos this] at hx
    exact hx
theorem y_ael_no (tag : Nat) : ¬ y_ael tag y_no = true := by
  match tag with
  | 0 => exact fun h => by cases h
  | 1 => exact fun h => by cases h
  | 2 => exact fun h => by cases h
  | 3 => exact fun h => by cases h
  | _ + 4 => exact fun h => by cases h
theorem y_q32_ok (hcl : ∀ S, g_pre CALL o nL ini bc bs cc P S → P S) (hQ : s_aln ins = a) (ha : a < 4) (hd : decode cc pc = .ok (ins, 1)) (hgo : s_pc t = pc + 1) (hH : y_H φ R W β h) (hL : y_gL W β L Ls) (hS : y_gS W β Ls st sts) (e : y_q32 R t L st a = some Xs) (hN : y_N φ R P W β Xs) : P (pc, Ls, sts, 0, 0, h) := by
  unfold y_q32 at e
  split at e
  next j u rest =>
    split at e
    next ro e1 =>
      obtain ⟨h1, h2⟩ := s_bif e
      cases h2
      simp only [Bool.and_eq_true] at h1
      obtain ⟨k1, k2, k3, k5⟩ := h1
      obtain ⟨x, xs, rfl, hg, -, hS'⟩ := y_gS_cons hS
      obtain ⟨y, ys, rfl, hg2, -, hS2⟩ := y_gS_cons hS'
      obtain ⟨q, ad, f, rfl, hq, hget, hf⟩ := y_ro_ok e1 hg2 hH
      obtain ⟨i, rfl, hin, hlt⟩ := y_inb_ok k3 hg
      have hv : y_g W β (y_rd ro j.1) (f i.toNatClampNeg) := by
        rcases y_rd_ok (show ro.1 = true from k1) k3 hg (hf _ hlt) with e9 | e9
        · rw [e9] at k5
          exact absurd k5 (y_ael_no _)
        · exact e9
      have k := y_N1 hN hH hL (sts := f i.toNatClampNeg :: ys) ⟨⟨hv, fun h => absurd rfl h⟩, hS2⟩
      rw [show s_pc t = pc + 1 from hgo] at k
      obtain ⟨isA, kind, n, l⟩ := ro
      have k1' : isA = true := k1
      subst k1'
      rcases s_al_i hQ ha with ⟨rfl, rfl⟩ | ⟨rfl, rfl⟩ | ⟨rfl, rfl⟩ | ⟨rfl, rfl⟩
      · have ek : kind = 0 := Nat.beq_eq.mp k2
        subst ek
        obtain ⟨z, ez, -⟩ := y_isI_g k5 hv
        refine hcl _ ⟨_, _, hd, Or.inr (Or.inr (Or.inr (Or.inl (Or.inr (Or.inr (Or.inl ⟨q, ad, n, f, i, ys, rfl, rfl, rfl, hget, hin, ?_⟩))))))⟩
        rw [ez] at k ⊢
        exact k
      · have ek : kind = 1 := Nat.beq_eq.mp k2
        subst ek
        obtain ⟨z, ez, -⟩ := y_isL_g k5 hv
        refine hcl _ ⟨_, _, hd, Or.inr (Or.inr (Or.inr (Or.inl (Or.inr (Or.inr (Or.inr (Or.inl ⟨q, ad, n, f, i, ys, rfl, rfl, rfl, hget, hin, ?_⟩)))))))⟩
        rw [ez] at k ⊢
        exact k
      · have ek : kind = 2 ∨ kind = 3 := by
          have h2' : (Nat.beq kind 2 || Nat.beq kind 3) = true := k2
          rw [Bool.or_eq_true, Nat.beq_eq, Nat.beq_eq] at h2'
          exact h2'
        have hz : ∃ z, f i.toNatClampNeg = .int z := by
          rcases ek with rfl | rfl
          · have k5' : (Nat.beq (y_rd (true, 2, n, l) j.1).1 0 && (decide (0 ≤ (y_rd (true, 2, n, l) j.1).2.1) && decide ((y_rd (true, 2, n, l) j.1).2.2.1 ≤ 1))) = true := k5
            rw [Bool.and_eq_true] at k5'
            obtain ⟨z, ez, -⟩ := y_isI_g k5'.1 hv
            exact ⟨z, ez⟩
          · have k5' : (Nat.beq (y_rd (true, 3, n, l) j.1).1 0 && (decide (-128 ≤ (y_rd (true, 3, n, l) j.1).2.1) && decide ((y_rd (true, 3, n, l) j.1).2.2.1 ≤ 127))) = true := k5
            rw [Bool.and_eq_true] at k5'
            obtain ⟨z, ez, -⟩ := y_isI_g k5'.1 hv
            exact ⟨z, ez⟩
        obtain ⟨z, ez⟩ := hz
        refine hcl _ ⟨_, _, hd, Or.inr (Or.inr (Or.inr (Or.inl (Or.inr (Or.inr (Or.inr (Or.inr (Or.inl ⟨q, ad, kind, n, f, i, ys, rfl, rfl, rfl, ek, hget, hin, ?_⟩))))))))⟩
        rw [ez] at k ⊢
        exact k
      · have ek : kind = 4 := Nat.beq_eq.mp k2
        subst ek
        have k5' : Nat.beq (y_rd (true, 4, n, l) j.1).1 3 = true := k5
        have hz : f i.toNatClampNeg = .null ∨ ∃ z, f i.toNatClampNeg = .ref z := by
          generalize y_rd (true, 4, n, l) j.1 = v at hv k5'
          obtain ⟨g, lo, hi, kk, c⟩ := v
          have hgg : g = 3 := Nat.beq_eq.mp k5'
          subst hgg
          rcases hv with e9 | ⟨q9, a9, e9, -⟩
          · exact Or.inl e9
          · exact Or.inr ⟨a9, e9⟩
        refine hcl _ ⟨_, _, hd, Or.inr (Or.inr (Or.inr (Or.inl (Or.inr (Or.inr (Or.inr (Or.inr (Or.inr (Or.inl ⟨q, ad, n, f, i, ys, rfl, rfl, rfl, hget, hin, ?_⟩)))))))))⟩
        rcases hz with ez | ⟨z, ez⟩ <;> rw [ez] at k ⊢ <;> exact k
    next => cases e
  next => cases e
theorem y_q33_ok (hcl : ∀ S, g_pre CALL o nL ini bc bs cc P S → P S) (hRo : y_Rok R) (hQ : s_asn ins = a) (ha : a < 4) (hd : decode cc pc = .ok (ins, 1)) (hgo : s_pc t = pc + 1) (hH : y_H φ R W β h) (hL : y_gL W β L Ls) (hS : y_gS W β Ls st sts) (e : y_q33 R t L st a = some Xs) (hN : y_N φ R P W β Xs) : P (pc, Ls, sts, 0, 0, h) := by
  unfold y_q33 at e
  split at e
  next v j u rest =>
    split at e
    next ro e1 =>
      obtain ⟨h1, h2⟩ := s_bif e
      cases h2
      simp only [Bool.and_eq_true, Nat.blt_eq, Bool.not_eq_true'] at h1
      obtain ⟨k1, k2, k0, k3, k4, k6, k5, k7⟩ := h1
      obtain ⟨w, ws, rfl, hg0, -, hS0⟩ := y_gS_cons hS
      obtain ⟨x, xs, rfl, hg, -, hS'⟩ := y_gS_cons hS0
      obtain ⟨y, ys, rfl, hg2, -, hS2⟩ := y_gS_cons hS'
      obtain ⟨q, ad, f, rfl, hq, hget, hf⟩ := y_ro_ok e1 hg2 hH
      have hR := y_ro_R e1
      obtain ⟨i, rfl, hin, hlt⟩ := y_inb_ok k4 hg
      have hf2 : ∀ j, j < ro.2.2.1 → y_g W β (y_spj β ro j) (g_up f i.toNatClampNeg w j) := fun j hj => by
        unfold g_up
        by_cases hjb : j = i.toNatClampNeg
        · rw [if_pos hjb]
          unfold y_spj
          rw [if_pos (show ro.1 = true from k1)]
          split
          next => exact y_le_ok k6 hg0
          next hne =>
            rw [Bool.or_eq_true, Nat.beq_eq] at k5
            rcases k5 with k5 | k5
            · exact absurd (Or.inl k5) hne
            · exact y_le_ok k5 hg0
        · rw [if_neg hjb]
          exact hf j hj
      have hH2 : y_H φ R W β (h.set q (ad, ro.1, ro.2.1, ro.2.2.1, g_up f i.toNatClampNeg w)) := y_H_set hH hq hR hget (fun p hp hpr => by
        have := (hRo.1 p hp).2 ro (by rw [hpr]; exact hR)
        rw [show ro.1 = true from k1] at this
        cases this) hf2 k0
      obtain ⟨isA, kind, n, l⟩ := ro
      have k1' : isA = true := k1
      subst k1'
      have k := y_N1 hN hH2 hL hS2
      rw [show s_pc t = pc + 1 from hgo] at k
      have k3' : kind < 4 := k3
      rcases s_as_i hQ ha with ⟨rfl, rfl⟩ | ⟨rfl, rfl⟩ | ⟨rfl, rfl⟩ | ⟨rfl, rfl⟩
      · have ek : kind = 0 := Nat.beq_eq.mp k2
        subst ek
        obtain ⟨z, rfl, -⟩ := y_isI_g k7 hg0
        exact hcl _ ⟨_, _, hd, Or.inr (Or.inr (Or.inr (Or.inl (Or.inr (Or.inr (Or.inr (Or.inr (Or.inr (Or.inr (Or.inl ⟨q, ad, n, f, i, z, ys, rfl, rfl, rfl, hget, hin, k⟩))))))))))⟩
      · have ek : kind = 1 := Nat.beq_eq.mp k2
        subst ek
        obtain ⟨z, rfl, -⟩ := y_isL_g k7 hg0
        exact hcl _ ⟨_, _, hd, Or.inr (Or.inr (Or.inr (Or.inl (Or.inr (Or.inr (Or.inr (Or.inr (Or.inr (Or.inr (Or.inr (Or.inl ⟨q, ad, n, f, i, z, ys, rfl, rfl, rfl, hget, hin, k⟩)))))))))))⟩
      · have ek : kind = 2 ∨ kind = 3 := by
          have h2' : (Nat.beq kind 2 || Nat.beq kind 3) = true := k2
          rw [Bool.or_eq_true, Nat.beq_eq, Nat.beq_eq] at h2'
          exact h2'
        rcases ek with rfl | rfl
        · have k7' : (Nat.beq v.1.1 0 && (decide (0 ≤ v.1.2.1) && decide (v.1.2.2.1 ≤ 1))) = true := k7
          rw [Bool.and_eq_true, Bool.and_eq_true, decide_eq_true_eq, decide_eq_true_eq] at k7'
          obtain ⟨z, rfl, hz⟩ := y_isI_g k7'.1 hg0
          have z1 := hz.1
          have z2 := hz.2.1
          have h0 : (0 : Int32).toInt = 0 := rfl
          have h1 : (1 : Int32).toInt = 1 := rfl
          have hzz : vp_nar .boolean z = z := by
            rcases (show z.toInt = 0 ∨ z.toInt = 1 by omega) with h | h
            · rw [Int32.toInt_inj.mp (h.trans h0.symm)]; decide
            · rw [Int32.toInt_inj.mp (h.trans h1.symm)]; decide
          refine hcl _ ⟨_, _, hd, Or.inr (Or.inr (Or.inr (Or.inl (Or.inr (Or.inr (Or.inr (Or.inr (Or.inr (Or.inr (Or.inr (Or.inr (Or.inl ⟨q, ad, n, f, i, z, ys, rfl, rfl, rfl, hget, hin, ?_⟩))))))))))))⟩
          rw [hzz]
          exact k
        · have k7' : (Nat.beq v.1.1 0 && (decide (-128 ≤ v.1.2.1) && decide (v.1.2.2.1 ≤ 127))) = true := k7
          rw [Bool.and_eq_true, Bool.and_eq_true, decide_eq_true_eq, decide_eq_true_eq] at k7'
          obtain ⟨z, rfl, hz⟩ := y_isI_g k7'.1 hg0
          have z1 := hz.1
          have z2 := hz.2.1
          refine hcl _ ⟨_, _, hd, Or.inr (Or.inr (Or.inr (Or.inl (Or.inr (Or.inr (Or.inr (Or.inr (Or.inr (Or.inr (Or.inr (Or.inr (Or.inr (Or.inl ⟨q, ad, n, f, i, z, ys, rfl, rfl, rfl, hget, hin, ?_⟩)))))))))))))⟩
          rw [s_byte (by omega) (by omega)]
          exact k
      · have ek : kind = 4 := Nat.beq_eq.mp k2
        omega
    next => cases e
  next => cases e
end Y3
