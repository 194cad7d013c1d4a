-- kinds and bounds: branches, fields, arrays
section Y3
variable {CALL : Nat → List Value → g_H → Nat → Nat → (Option Value → g_H → Prop) → Prop} {cc : ByteArray} {o nL : Nat} {ini : Bool} {bc bs : Nat} {P : g_S → Prop} {R : List y_R} {W : y_W} {β : Nat → Int}
variable {full t : List s_I} {L : y_L} {st : List y_T} {Ls : g_L} {sts : List Value} {h : g_H} {Xs : List y_X} {pc a b : Nat} {ins : Instr} {r : s_I}
def y_narL (t : y_T) (lo hi : Int) (L : y_L) : y_L := match t.2 with
  | 0 => L
  | i + 1 => L.map (fun q => if q.1 = i then (q.1, y_setb t.1 lo hi) else q)
theorem y_nar_eq {α : Type} (t : y_T) (lo hi : Int) (L : y_L) (k : y_L → α) : y_nar t lo hi L k = k (y_narL t lo hi L) := by
  obtain ⟨v, i⟩ := t
  cases i with
  | zero => rfl
  | succ i => simp only [y_nar, y_narL, y_fv_eq, y_upd_eq]
theorem y_narL_ok {t : y_T} {lo hi : Int} {x : Value} (hv : y_g W β (y_setb t.1 lo hi) x) (hp : t.2 ≠ 0 → (t.2 - 1, x) ∈ Ls) (hL : y_gL W β L Ls) : y_gL W β (y_narL t lo hi L) Ls := by
  obtain ⟨v, i⟩ := t
  cases i with
  | zero => exact hL
  | succ i => exact y_gL_upd hL (hp (Nat.succ_ne_zero _)) hv
theorem y_setb_I {v : y_V} (hk : Nat.beq v.1 0 = true) {n : Int32} (hn : y_num β v n.toInt) {lo hi : Int} (h1 : lo ≤ n.toInt) (h2 : n.toInt ≤ hi) : y_g W β (y_setb v lo hi) (.int n) := by
  obtain ⟨t, l, u, k, c⟩ := v
  have ht : t = 0 := Nat.beq_eq.mp hk
  subst ht
  exact ⟨n, rfl, h1, h2, hn.2.2⟩
theorem y_setb_L {v : y_V} (hk : Nat.beq v.1 1 = true) {n : Int64} (hn : y_num β v n.toInt) {lo hi : Int} (h1 : lo ≤ n.toInt) (h2 : n.toInt ≤ hi) : y_g W β (y_setb v lo hi) (.long n) := by
  obtain ⟨t, l, u, k, c⟩ := v
  have ht : t = 1 := Nat.beq_eq.mp hk
  subst ht
  exact ⟨n, rfl, h1, h2, hn.2.2⟩
/-- a number on the stack, as a branch looks at it -/
def y_nb (W : y_W) (β : Nat → Int) (Ls : g_L) (t : y_T) (m : Int) : Prop := t.1.2.1 ≤ m ∧ m ≤ t.1.2.2.1 ∧ (t.2 ≠ 0 → ∃ x, (t.2 - 1, x) ∈ Ls ∧ ∀ lo hi, lo ≤ m → m ≤ hi → y_g W β (y_setb t.1 lo hi) x)
theorem y_nb_I {t : y_T} (hk : y_isI t = true) {n : Int32} (hn : y_num β t.1 n.toInt) (hp : t.2 ≠ 0 → (t.2 - 1, Value.int n) ∈ Ls) : y_nb W β Ls t n.toInt :=
  ⟨hn.1, hn.2.1, fun h0 => ⟨_, hp h0, fun lo hi h1 h2 => y_setb_I hk hn h1 h2⟩⟩
theorem y_nb_L {t : y_T} (hk : y_isL t = true) {n : Int64} (hn : y_num β t.1 n.toInt) (hp : t.2 ≠ 0 → (t.2 - 1, Value.long n) ∈ Ls) : y_nb W β Ls t n.toInt :=
  ⟨hn.1, hn.2.1, fun h0 => ⟨_, hp h0, fun lo hi h1 h2 => y_setb_L hk hn h1 h2⟩⟩
theorem y_nb_narL {t : y_T} {m lo hi : Int} (hn : y_nb W β Ls t m) (h1 : lo ≤ m) (h2 : m ≤ hi) (hL : y_gL W β L Ls) : y_gL W β (y_narL t lo hi L) Ls := by
  by_cases h0 : t.2 = 0
  · unfold y_narL
    rw [h0]
    exact hL
  · obtain ⟨x, hx, hg⟩ := hn.2.2 h0
    exact y_narL_ok (hg lo hi h1 h2) (fun _ => hx) hL
theorem y_road_ok {cd : ClassFile.Cond} {x y : y_T} {rest : List y_T} {tt : Option (List s_I)} {m n : Int} (e : y_road (s_cdn cd) x y L rest tt = some Xs) (hx : y_nb W β Ls x m) (hy : y_nb W β Ls y n) (hc : h_ci m n cd = true) (hH : y_H R W h) (hL : y_gL W β L Ls) (hS : y_gS W β Ls rest sts) (hN : y_N R P W β Xs) : ∃ t', tt = some t' ∧ P (s_pc t', Ls, sts, 0, 0, h) := by
  have hb := y_cnd_ok hx.1 hx.2.1 hy.1 hy.2.1 hc
  unfold y_road at e
  generalize y_cnd (s_cdn cd) x.1.2.1 x.1.2.2.1 y.1.2.1 y.1.2.2.1 = B at e hb
  obtain ⟨⟨a, b⟩, c, d⟩ := B
  obtain ⟨b1, b2, b3, b4⟩ := hb
  dsimp only at b1 b2 b3 b4
  simp only [s_fi_eq] at e
  cases e1 : (decide (b < a) || decide (d < c))
  · rw [e1, cond_false] at e
    cases tt with
    | none => cases e
    | some t' =>
      simp only [y_nar_eq] at e
      cases e
      exact ⟨t', rfl, y_N1 hN hH (y_nb_narL hy b3 b4 (y_nb_narL hx b1 b2 hL)) hS⟩
  · rw [Bool.or_eq_true, decide_eq_true_eq, decide_eq_true_eq] at e1
    omega
theorem y_two_ok {x y : Option (List y_X)} (e : y_two x y = some Xs) : ∃ A B, x = some A ∧ y = some B ∧ Xs = A ++ B := by
  unfold y_two at e
  split at e
  next A =>
    split at e
    next B => cases e; exact ⟨A, B, rfl, rfl, rfl⟩
    next => cases e
  next => cases e
theorem y_N_l {A B : List y_X} (hN : y_N R P W β (A ++ B)) : y_N R P W β A := fun X hX => hN X (List.mem_append_left _ hX)
theorem y_N_r {A B : List y_X} (hN : y_N R P W β (A ++ B)) : y_N R P W β B := fun X hX => hN X (List.mem_append_right _ hX)
theorem y_bra_ok {cd : ClassFile.Cond} {x y : y_T} {rest : List y_T} {m n : Int} (e : y_bra full r t a (s_cdn cd) x y L rest = some Xs) (hx : y_nb W β Ls x m) (hy : y_nb W β Ls y n) (hH : y_H R W h) (hL : y_gL W β L Ls) (hS : y_gS W β Ls rest sts) (hN : y_N R P W β Xs) : P (if h_ci m n cd = true then a else r.1 + r.2.1, Ls, sts, 0, 0, h) := by
  unfold y_bra at e
  obtain ⟨A, B, e1, e2, rfl⟩ := y_two_ok e
  by_cases hc : h_ci m n cd = true
  · rw [if_pos hc]
    obtain ⟨t', h1, h2⟩ := y_road_ok e1 hx hy hc hH hL hS (y_N_l hN)
    rw [(s_jump_mem h1).1] at h2
    exact h2
  · rw [if_neg hc]
    rw [← y_ncd_n] at e2
    obtain ⟨t', h1, h2⟩ := y_road_ok e2 hx hy (y_ncd_h hc) hH hL hS (y_N_r hN)
    obtain ⟨h3, h4⟩ := s_bif h1
    cases h4
    rw [s_go_eq h3] at h2
    exact h2
theorem y_nb_0 : y_nb W β Ls ((0, 0, 0, 0, 0), 0) 0 := ⟨Int.le_refl _, Int.le_refl _, fun h => absurd rfl h⟩
theorem y_q21_ok (hcl : ∀ S, g_pre CALL o nL ini bc bs cc P S → P S) {cd : ClassFile.Cond} {off : Int} (hd : decode cc r.1 = .ok (.ifCond cd off, 3)) (hl : r.2.1 = 3) (hQ : (r.1 : Int) + off = (a : Int)) (hH : y_H R W h) (hL : y_gL W β L Ls) (hS : y_gS W β Ls st sts) (e : y_q21 full r t L st a (s_cdn cd) = some Xs) (hN : y_N R P W β Xs) : P (r.1, Ls, sts, 0, 0, h) := by
  unfold y_q21 at e
  split at e
  next x rest =>
    obtain ⟨h1, h2⟩ := s_bif e
    obtain ⟨v, vs, rfl, hg, hp, hS'⟩ := y_gS_cons hS
    obtain ⟨m, rfl, hm⟩ := y_isI_g h1 hg
    have k := y_bra_ok h2 (y_nb_I h1 hm hp) y_nb_0 hH hL hS' hN
    rw [hl] at k
    refine hcl _ ⟨_, _, hd, Or.inr (Or.inr (Or.inl (Or.inr (Or.inl ⟨_, _, _, _, _, rfl, rfl, hQ, rfl, ?_⟩))))⟩
    rw [h_c1]
    exact k
  next => cases e
theorem y_q22_ok (hcl : ∀ S, g_pre CALL o nL ini bc bs cc P S → P S) {cd : ClassFile.Cond} {off : Int} (hd : decode cc r.1 = .ok (.if_icmp cd off, 3)) (hl : r.2.1 = 3) (hQ : (r.1 : Int) + off = (a : Int)) (hH : y_H R W h) (hL : y_gL W β L Ls) (hS : y_gS W β Ls st sts) (e : y_q22 full r t L st a (s_cdn cd) = some Xs) (hN : y_N R P W β Xs) : P (r.1, Ls, sts, 0, 0, h) := by
  unfold y_q22 at e
  split at e
  next y x rest =>
    obtain ⟨h1, h2⟩ := s_bif e
    rw [Bool.and_eq_true] at h1
    obtain ⟨v, vs, rfl, hg, hp, hS'⟩ := y_gS_cons hS
    obtain ⟨u, us, rfl, hg2, hp2, hS2⟩ := y_gS_cons hS'
    obtain ⟨n, rfl, hn⟩ := y_isI_g h1.2 hg
    obtain ⟨m, rfl, hm⟩ := y_isI_g h1.1 hg2
    have k := y_bra_ok h2 (y_nb_I h1.1 hm hp2) (y_nb_I h1.2 hn hp) hH hL hS2 hN
    rw [hl] at k
    refine hcl _ ⟨_, _, hd, Or.inr (Or.inr (Or.inl (Or.inr (Or.inr (Or.inl ⟨_, _, _, _, _, _, rfl, rfl, hQ, rfl, ?_⟩)))))⟩
    rw [h_c2]
    exact k
  next => cases e
theorem y_q20_ok (hcl : ∀ S, g_pre CALL o nL ini bc bs cc P S → P S) {off : Int} (hd : decode cc pc = .ok (.goto off, 3)) (hQ : (pc : Int) + off = (a : Int)) (hH : y_H R W h) (hL : y_gL W β L Ls) (hS : y_gS W β Ls st sts) (e : y_jmp full a L st = some Xs) (hN : y_N R P W β Xs) : P (pc, Ls, sts, 0, 0, h) := by
  unfold y_jmp at e
  split at e
  next t' e1 =>
    cases e
    have k := y_N1 hN hH hL hS
    rw [show s_pc t' = a from (s_jump_mem e1).1] at k
    exact hcl _ ⟨_, _, hd, Or.inr (Or.inr (Or.inl (Or.inl ⟨_, _, rfl, rfl, hQ, k⟩)))⟩
  next => cases e
/-- a comparison of longs, and the branch behind it -/
theorem y_q19_ok (hcl : ∀ S, g_pre CALL o nL ini bc bs cc P S → P S) (hd : decode cc pc = .ok (.lcmp, 1)) (hgo : s_pc t = pc + 1) (hI : ∀ r ∈ t, s_okI cc o r = true) (hH : y_H R W h) (hL : y_gL W β L Ls) (hS : y_gS W β Ls st sts) (e : y_q19 full t L st = some Xs) (hN : y_N R P W β Xs) : P (pc, Ls, sts, 0, 0, h) := by
  unfold y_q19 at e
  split at e
  next y x rest =>
    split at e
    next pc2 len q kd a b v ins t' =>
      obtain ⟨h1, h2⟩ := s_bif e
      rw [Bool.and_eq_true, Bool.and_eq_true, Nat.beq_eq] at h1
      obtain ⟨hx1, hy1, rfl⟩ := h1
      obtain ⟨⟨n9, hd2, hlen, hne⟩, hQ, -⟩ := s_okI_eq (hI _ List.mem_cons_self) (by decide)
      have hQ' : ∃ cd off, ins = .ifCond cd off ∧ (pc2 : Int) + off = (a : Int) ∧ s_cdn cd = b := by
        clear hne hlen hd2 h2 e hgo hI
        unfold s_okQ at hQ
        simp only at hQ
        split at hQ
        next cd off =>
          rw [Bool.and_eq_true, decide_eq_true_eq, Nat.beq_eq] at hQ
          exact ⟨cd, off, rfl, hQ.1, hQ.2⟩
        next => cases hQ
      obtain ⟨cd, off, rfl, hq1, rfl⟩ := hQ'
      have hn3 := hne (by decide)
      rw [hn3] at hd2 hlen
      have hpc : pc2 = pc + 1 := hgo
      subst hpc
      obtain ⟨w, ws, rfl, hg, hp, hS'⟩ := y_gS_cons hS
      obtain ⟨u, us, rfl, hg2, hp2, hS2⟩ := y_gS_cons hS'
      obtain ⟨n, rfl, hn⟩ := y_isL_g hy1 hg
      obtain ⟨m, rfl, hm⟩ := y_isL_g hx1 hg2
      have k := y_bra_ok (r := (pc + 1, len, 21, kd, a, s_cdn cd, v, .ifCond cd off)) h2 (y_nb_L hx1 hm hp2) (y_nb_L hy1 hn hp) hH hL hS2 hN
      have hl3 : len = 3 := hlen
      subst hl3
      have k2 : P (pc + 1, Ls, .int (lg_cmp m n) :: us, 0, 0, h) := by
        refine hcl _ ⟨_, _, hd2, Or.inr (Or.inr (Or.inl (Or.inr (Or.inl ⟨_, _, _, _, _, rfl, rfl, hq1, rfl, ?_⟩))))⟩
        rw [h_cl]
        exact k
      exact hcl _ ⟨_, _, hd, Or.inr (Or.inl (Or.inr (Or.inr (Or.inr (Or.inr (Or.inr (Or.inr (Or.inl ⟨_, _, _, rfl, rfl, rfl, k2⟩))))))))⟩
    next => cases e
  next => cases e
/-- null or not -/
theorem y_nul_ok {x : y_T} {rest : List y_T} {tt : Option (List s_I)} (e : y_nul x L rest tt = some Xs) (hx : ¬ x.1.1 = 2) (hH : y_H R W h) (hL : y_gL W β L Ls) (hS : y_gS W β Ls rest sts) (hN : y_N R P W β Xs) : ∃ t', tt = some t' ∧ P (s_pc t', Ls, sts, 0, 0, h) := by
  unfold y_nul at e
  have h0 : Nat.beq x.1.1 2 = false := by
    cases e1 : Nat.beq x.1.1 2
    · rfl
    · exact absurd (Nat.beq_eq.mp e1) hx
  rw [h0, cond_false] at e
  cases tt with
  | none => cases e
  | some t' =>
    cases e
    exact ⟨t', rfl, y_N1 hN hH hL hS⟩
theorem y_nnl_ok {x : y_T} {rest : List y_T} {tt : Option (List s_I)} {z : Value} (e : y_nnl x L rest tt = some Xs) (hx : ¬ x.1.1 = 4) (hg : y_g W β (2, x.1.2) z) (hp : x.2 ≠ 0 → (x.2 - 1, z) ∈ Ls) (hH : y_H R W h) (hL : y_gL W β L Ls) (hS : y_gS W β Ls rest sts) (hN : y_N R P W β Xs) : ∃ t', tt = some t' ∧ P (s_pc t', Ls, sts, 0, 0, h) := by
  unfold y_nnl at e
  have h0 : Nat.beq x.1.1 4 = false := by
    cases e1 : Nat.beq x.1.1 4
    · rfl
    · exact absurd (Nat.beq_eq.mp e1) hx
  rw [h0, cond_false] at e
  cases tt with
  | none => cases e
  | some t' =>
    obtain ⟨v, i⟩ := x
    cases i with
    | zero =>
      cases e
      exact ⟨t', rfl, y_N1 hN hH hL hS⟩
    | succ i =>
      simp only [y_fv_eq, y_upd_eq] at e
      cases e
      exact ⟨t', rfl, y_N1 hN hH (y_gL_upd hL (hp (Nat.succ_ne_zero _)) hg) hS⟩
theorem y_q23_ok (hcl : ∀ S, g_pre CALL o nL ini bc bs cc P S → P S) {off : Int} {nn : Bool} (hd : decode cc r.1 = .ok (if nn = true then .ifnonnull off else .ifnull off, 3)) (hl : r.2.1 = 3) (hQ : (r.1 : Int) + off = (a : Int)) (hH : y_H R W h) (hL : y_gL W β L Ls) (hS : y_gS W β Ls st sts) (e : y_q23 full r t L st a nn = some Xs) (hN : y_N R P W β Xs) : P (r.1, Ls, sts, 0, 0, h) := by
  unfold y_q23 at e
  split at e
  next x rest =>
    obtain ⟨h1, h2⟩ := s_bif e
    rw [Bool.and_eq_true, Nat.ble_eq, Nat.ble_eq] at h1
    obtain ⟨z, zs, rfl, hg, hp, hS'⟩ := y_gS_cons hS
    have hz : (z = .null ∧ ¬ x.1.1 = 2) ∨ ((∃ q, z = .ref q) ∧ ¬ x.1.1 = 4 ∧ y_g W β (2, x.1.2) z) := by
      obtain ⟨⟨g, lo, hi, k, c⟩, i⟩ := x
      have hgg : g = 2 ∨ g = 3 ∨ g = 4 := by
        have h11 : 2 ≤ g := h1.1
        have h12 : g ≤ 4 := h1.2
        omega
      rcases hgg with rfl | rfl | rfl
      · obtain ⟨q, ad, e9, hq⟩ := hg
        exact Or.inr ⟨⟨ad, e9⟩, (show ¬ (2 : Nat) = 4 by decide), ⟨q, ad, e9, hq⟩⟩
      · rcases hg with e9 | ⟨q, ad, e9, hq⟩
        · exact Or.inl ⟨e9, (show ¬ (3 : Nat) = 2 by decide)⟩
        · exact Or.inr ⟨⟨ad, e9⟩, (show ¬ (3 : Nat) = 4 by decide), ⟨q, ad, e9, hq⟩⟩
      · exact Or.inl ⟨hg, (show ¬ (4 : Nat) = 2 by decide)⟩
    have jmp : ∀ {t'}, s_jump full a = some t' → s_pc t' = a := fun h => (s_jump_mem h).1
    have nxt : ∀ {t'}, (bif s_go r t then some t else none) = some t' → s_pc t' = r.1 + 3 := fun h => by
      obtain ⟨h3, h4⟩ := s_bif h
      cases h4
      rw [s_go_eq h3, hl]
    cases nn
    · obtain ⟨A, B, e1, e2, rfl⟩ := y_two_ok (show y_two (y_nul x L rest (s_jump full a)) (y_nnl x L rest (bif s_go r t then some t else none)) = some Xs from h2)
      rcases hz with ⟨rfl, hx⟩ | ⟨⟨q, rfl⟩, hx, hg2⟩
      · obtain ⟨t', g1, g2⟩ := y_nul_ok e1 hx hH hL hS' (y_N_l hN)
        rw [jmp g1] at g2
        exact hcl _ ⟨_, _, hd, Or.inr (Or.inr (Or.inl (Or.inr (Or.inr (Or.inr (Or.inl ⟨off, a, 0, _, rfl, rfl, hQ, Or.inl ⟨rfl, g2⟩⟩))))))⟩
      · obtain ⟨t', g1, g2⟩ := y_nnl_ok e2 hx hg2 hp hH hL hS' (y_N_r hN)
        rw [nxt g1] at g2
        exact hcl _ ⟨_, _, hd, Or.inr (Or.inr (Or.inl (Or.inr (Or.inr (Or.inr (Or.inl ⟨off, a, q, _, rfl, rfl, hQ, Or.inr ⟨rfl, g2⟩⟩))))))⟩
    · obtain ⟨A, B, e1, e2, rfl⟩ := y_two_ok (show y_two (y_nnl x L rest (s_jump full a)) (y_nul x L rest (bif s_go r t then some t else none)) = some Xs from h2)
      rcases hz with ⟨rfl, hx⟩ | ⟨⟨q, rfl⟩, hx, hg2⟩
      · obtain ⟨t', g1, g2⟩ := y_nul_ok e2 hx hH hL hS' (y_N_r hN)
        rw [nxt g1] at g2
        exact hcl _ ⟨_, _, hd, Or.inr (Or.inr (Or.inl (Or.inr (Or.inr (Or.inr (Or.inr (Or.inl ⟨off, a, 0, _, rfl, rfl, hQ, Or.inl ⟨rfl, g2⟩⟩)))))))⟩
      · obtain ⟨t', g1, g2⟩ := y_nnl_ok e1 hx hg2 hp hH hL hS' (y_N_l hN)
        rw [jmp g1] at g2
        exact hcl _ ⟨_, _, hd, Or.inr (Or.inr (Or.inl (Or.inr (Or.inr (Or.inr (Or.inr (Or.inl ⟨off, a, q, _, rfl, rfl, hQ, Or.inr ⟨rfl, g2⟩⟩)))))))⟩
  next => cases e
-- the heap
theorem y_ro_ok {u : y_T} {ro : y_R} (e : y_ro R u = some ro) {x : Value} (hg : y_g W β u.1 x) (hH : y_H R W h) : ∃ q ad f, x = .ref ad ∧ W[q]? = some (ad, u.1.2.1.toNat) ∧ g_get h q = some (ad, ro.1, ro.2.1, ro.2.2.1, f) ∧ ∀ j, j < ro.2.2.1 → y_g W (fun _ => 0) (y_sp ro j) (f j) := by
  unfold y_ro at e
  obtain ⟨h1, h2⟩ := s_bif e
  obtain ⟨⟨g, lo, hi, k, c⟩, i⟩ := u
  have hgg : g = 2 := Nat.beq_eq.mp h1
  subst hgg
  obtain ⟨q, ad, rfl, hq⟩ := hg
  obtain ⟨ro', f, e1, e2, e3⟩ := hH.2 q ad _ hq
  have e4 : ro' = ro := Option.some.inj (e1.symm.trans h2)
  subst e4
  exact ⟨q, ad, f, rfl, hq, e2, e3⟩
theorem y_H_set (hH : y_H R W h) {q ad r : Nat} {ro : y_R} {f f' : Nat → Value} (hq : W[q]? = some (ad, r)) (hr : R[r]? = some ro) (hf : ∀ j, j < ro.2.2.1 → y_g W (fun _ => 0) (y_sp ro j) (f' j)) : y_H R W (h.set q (ad, ro.1, ro.2.1, ro.2.2.1, f')) := by
  refine ⟨by rw [List.length_set]; exact hH.1, fun q2 ad2 r2 hq2 => ?_⟩
  by_cases e : q = q2
  · subst e
    rw [hq] at hq2
    cases hq2
    have hl : q < h.length := by
      rw [hH.1]
      exact (List.getElem?_eq_some_iff.mp hq).1
    exact ⟨ro, f', hr, List.getElem?_set_self hl, hf⟩
  · obtain ⟨ro2, f2, g1, g2, g3⟩ := hH.2 q2 ad2 r2 hq2
    exact ⟨ro2, f2, g1, by rw [List.getElem?_set_ne e]; exact g2, g3⟩
theorem y_q26_ok (hcl : ∀ S, g_pre CALL o nL ini bc bs cc P S → P S) {i kd : Nat} {v0 : Int} (hd : decode cc pc = .ok (.getfield i, 3)) (hgo : s_pc t = pc + 3) (hlk : s_lkd o i kd a b v0) (hH : y_H R W h) (hL : y_gL W β L Ls) (hS : y_gS W β Ls st sts) (e : y_q26 R t L st kd a b = some Xs) (hN : y_N R P W β Xs) : P (pc, Ls, sts, 0, 0, h) := by
  obtain ⟨ps, hlk⟩ := hlk
  unfold y_q26 at e
  split at e
  next u rest =>
    split at e
    next ro e1 =>
      obtain ⟨h1, h2⟩ := s_bif e
      cases h2
      simp only [Bool.and_eq_true, Nat.beq_eq, Nat.blt_eq, Bool.not_eq_true', Nat.ble_eq] at h1
      obtain ⟨k1, k2, k3, k4, k5⟩ := h1
      obtain ⟨x, xs, rfl, hg, -, hS'⟩ := y_gS_cons hS
      obtain ⟨q, ad, f, rfl, hq, hget, hf⟩ := y_ro_ok e1 hg hH
      obtain ⟨isA, kind, n, l⟩ := ro
      have k2' : isA = false := k2
      have k3' : kind = a := k3
      subst k2' k3'
      have k := y_N1 hN hH hL (sts := f b :: xs) ⟨⟨y_plain_g k5 (hf b k4), fun h => absurd rfl h⟩, hS'⟩
      rw [show s_pc t = pc + 3 from hgo] at k
      have hk' : kd = 0 ∨ kd = 1 := by omega
      exact hcl _ ⟨_, _, hd, Or.inr (Or.inr (Or.inr (Or.inl (Or.inl ⟨_, _, _, _, _, _, q, ad, n, f, xs, rfl, rfl, hk', hlk, rfl, hget, k4, k⟩))))⟩
    next => cases e
  next => cases e
theorem y_q27_ok (hcl : ∀ S, g_pre CALL o nL ini bc bs cc P S → P S) {ft : s_FT} (hft : s_ftok ft) {i kd : Nat} {v0 : Int} (hd : decode cc pc = .ok (.putfield i, 3)) (hgo : s_pc t = pc + 3) (hlk : s_lkd o i kd a b v0) (hH : y_H R W h) (hL : y_gL W β L Ls) (hS : y_gS W β Ls st sts) (e : y_q27 R ft t L st kd a b = some Xs) (hN : y_N R P W β Xs) : P (pc, Ls, sts, 0, 0, h) := by
  obtain ⟨ps, hlk⟩ := hlk
  unfold y_q27 at e
  split at e
  next v u rest =>
    split at e
    next ro e1 =>
      split at e
      next ty fin e2 =>
        obtain ⟨h1, h2⟩ := s_bif e
        cases h2
        simp only [Bool.and_eq_true, Nat.beq_eq, Nat.blt_eq, Bool.not_eq_true', Nat.ble_eq] at h1
        obtain ⟨k1, k2, k3, k4, k5, k6, k7, k8⟩ := h1
        obtain ⟨x, xs, rfl, hg, -, hS'⟩ := y_gS_cons hS
        obtain ⟨y, ys, rfl, hg2, -, hS2⟩ := y_gS_cons hS'
        have hro := e1
        obtain ⟨q, ad, f, rfl, hq, hget, hf⟩ := y_ro_ok e1 hg2 hH
        have hR : R[u.1.2.1.toNat]? = some ro := by
          unfold y_ro at hro
          exact (s_bif hro).2
        have hty : ty < 4 := by
          unfold y_fok at k7
          split at k7 <;> first | decide | cases k7
        obtain ⟨f1, T, f2, f3⟩ := hft a b ty fin e2 hty
        have hnv : narrow T x = x ∧ fits T x = true := by
          match ty, k7, f3 with
          | 0, k7, f3 =>
            obtain ⟨z, ez, -⟩ := y_isI_g k7 hg
            have f3' : T = .int := f3
            subst f3'; rw [ez]; exact ⟨rfl, rfl⟩
          | 1, k7, f3 =>
            obtain ⟨z, ez, -⟩ := y_isL_g k7 hg
            have f3' : T = .long := f3
            subst f3'; rw [ez]; exact ⟨rfl, rfl⟩
          | 2, k7, f3 =>
            have k7' : (Nat.beq v.1.1 0 && (decide (0 ≤ v.1.2.1) && decide (v.1.2.2.1 ≤ 1))) = true := k7
            rw [Bool.and_eq_true, Bool.and_eq_true, decide_eq_true_eq, decide_eq_true_eq] at k7'
            obtain ⟨z, ez, hz⟩ := y_isI_g k7'.1 hg
            have f3' : T = .boolean := f3
            subst f3'
            have z1 := hz.1
            have z2 := hz.2.1
            have h0 : (0 : Int32).toInt = 0 := rfl
            have h1 : (1 : Int32).toInt = 1 := rfl
            have hx : z = 0 ∨ z = 1 := by
              rcases (show z.toInt = 0 ∨ z.toInt = 1 by omega) with h | h
              · exact Or.inl (Int32.toInt_inj.mp (h.trans h0.symm))
              · exact Or.inr (Int32.toInt_inj.mp (h.trans h1.symm))
            rcases hx with rfl | rfl <;> rw [ez] <;> exact ⟨rfl, rfl⟩
          | 3, k7, f3 =>
            have hk : y_tk 2 v.1 = true := k7
            rcases (y_tk_g hk hg).2.2 (by decide) with ez | ⟨z, ez⟩ <;> rw [ez] <;> rcases f3 with ⟨w, rfl⟩ | ⟨w, rfl⟩ <;> exact ⟨rfl, rfl⟩
          | _ + 4, k7, f3 => cases k7
        have hv : y_g W (fun _ => 0) (y_sp ro b) x := y_plain_g k5 (y_le_ok k6 hg)
        have hH2 : y_H R W (h.set q (ad, ro.1, ro.2.1, ro.2.2.1, g_up f b x)) := y_H_set (f := f) hH hq hR (fun j hj => by
          unfold g_up
          by_cases hjb : j = b
          · rw [if_pos hjb, hjb]
            exact hv
          · rw [if_neg hjb]
            exact hf j hj)
        obtain ⟨isA, kind, n, l⟩ := ro
        have k2' : isA = false := k2
        have k3' : kind = a := k3
        subst k2' k3'
        have k := y_N1 hN hH2 hL hS2
        rw [show s_pc t = pc + 3 from hgo] at k
        have hk' : kd = 0 ∨ kd = 1 := by omega
        exact hcl _ ⟨_, _, hd, Or.inr (Or.inr (Or.inr (Or.inl (Or.inr (Or.inl ⟨_, _, _, _, _, _, q, ad, n, f, x, T, ys, rfl, rfl, hk', hlk, rfl, hget, k4, Or.inl (f1.trans k8), f2, hnv.1, hnv.2, k⟩)))))⟩
    next => cases e
  next => cases e
theorem y_q28_ok (hcl : ∀ S, g_pre CALL o nL ini bc bs cc P S → P S) (hd : decode cc pc = .ok (.arraylength, 1)) (hgo : s_pc t = pc + 1) (hH : y_H R W h) (hL : y_gL W β L Ls) (hS : y_gS W β Ls st sts) (e : y_q28 R t L st = some Xs) (hN : y_N R P W β Xs) : P (pc, Ls, sts, 0, 0, h) := by
  unfold y_q28 at e
  split at e
  next u rest =>
    split at e
    next ro e1 =>
      obtain ⟨h1, h2⟩ := s_bif e
      simp only [Bool.and_eq_true, Nat.blt_eq, Nat.ble_eq] at h1
      obtain ⟨k1, k2, k3⟩ := h1
      rw [s_fi_eq] at h2
      cases h2
      obtain ⟨x, xs, rfl, hg, -, hS'⟩ := y_gS_cons hS
      obtain ⟨q, ad, f, rfl, hq, hget, hf⟩ := y_ro_ok e1 hg hH
      obtain ⟨isA, kind, n, l⟩ := ro
      have k1' : isA = true := k1
      subst k1'
      have k3' : n ≤ 2147483647 := k3
      have hn : y_g W β (0, (n : Int), (n : Int), 0, 0) (.int (Int32.ofInt (n : Int))) := y_in32_g (by
        unfold y_in32
        rw [Bool.and_eq_true, decide_eq_true_eq, decide_eq_true_eq]
        omega)
      have k := y_N1 hN hH hL (sts := .int (Int32.ofInt (n : Int)) :: xs) ⟨⟨hn, fun h => absurd rfl h⟩, hS'⟩
      rw [show s_pc t = pc + 1 from hgo] at k
      exact hcl _ ⟨_, _, hd, Or.inr (Or.inr (Or.inr (Or.inl (Or.inr (Or.inr (Or.inr (Or.inr (Or.inr (Or.inr (Or.inr (Or.inr (Or.inr (Or.inr (Or.inr (Or.inl ⟨q, ad, kind, n, f, xs, rfl, rfl, rfl, k2, hget, k⟩)))))))))))))))⟩
    next => cases e
  next => cases e
theorem y_inb_ok {v : y_V} {n : Nat} (hi : y_inb v n = true) {x : Value} (hg : y_g W β v x) : ∃ j : Int32, x = .int j ∧ vp_in j n ∧ j.toNatClampNeg < n := by
  unfold y_inb at hi
  rw [Bool.and_eq_true, Bool.and_eq_true, decide_eq_true_eq, decide_eq_true_eq] at hi
  obtain ⟨j, rfl, hj⟩ := y_isI_g hi.1 hg
  have j1 := hj.1
  have j2 := hj.2.1
  refine ⟨j, rfl, vp_in_iff.mpr ⟨by omega, by omega⟩, ?_⟩
  show j.toInt.toNat < n
  omega
theorem y_q32_ok (hcl : ∀ S, g_pre CALL o nL ini bc bs cc P S → P S) (hQ : s_aln ins = a) (ha : a < 4) (hd : decode cc pc = .ok (ins, 1)) (hgo : s_pc t = pc + 1) (hH : y_H R W h) (hL : y_gL W β L Ls) (hS : y_gS W β Ls st sts) (e : y_q32 R t L st a = some Xs) (hN : y_N R P W β Xs) : P (pc, Ls, sts, 0, 0, h) := by
  unfold y_q32 at e
  split at e
  next j u rest =>
    split at e
    next ro e1 =>
      obtain ⟨h1, h2⟩ := s_bif e
      cases h2
      simp only [Bool.and_eq_true] at h1
      obtain ⟨k1, k2, k3, k4, k5⟩ := h1
      obtain ⟨x, xs, rfl, hg, -, hS'⟩ := y_gS_cons hS
      obtain ⟨y, ys, rfl, hg2, -, hS2⟩ := y_gS_cons hS'
      obtain ⟨q, ad, f, rfl, hq, hget, hf⟩ := y_ro_ok e1 hg2 hH
      obtain ⟨i, rfl, hin, hlt⟩ := y_inb_ok k3 hg
      have hsp : y_sp ro i.toNatClampNeg = y_sp ro 0 := by
        obtain ⟨isA, kind, n, l⟩ := ro
        have k1' : isA = true := k1
        subst k1'
        cases l <;> rfl
      have hv : y_g W (fun _ => 0) (y_sp ro 0) (f i.toNatClampNeg) := by
        rw [← hsp]
        exact hf _ hlt
      have k := y_N1 hN hH hL (sts := f i.toNatClampNeg :: ys) ⟨⟨y_plain_g k4 hv, fun h => absurd rfl h⟩, hS2⟩
      rw [show s_pc t = pc + 1 from hgo] at k
      obtain ⟨isA, kind, n, l⟩ := ro
      have k1' : isA = true := k1
      subst k1'
      rcases s_al_i hQ ha with ⟨rfl, rfl⟩ | ⟨rfl, rfl⟩ | ⟨rfl, rfl⟩ | ⟨rfl, rfl⟩
      · have ek : kind = 0 := Nat.beq_eq.mp k2
        subst ek
        obtain ⟨z, ez, -⟩ := y_isI_g k5 hv
        refine hcl _ ⟨_, _, hd, Or.inr (Or.inr (Or.inr (Or.inl (Or.inr (Or.inr (Or.inl ⟨q, ad, n, f, i, ys, rfl, rfl, rfl, hget, hin, ?_⟩))))))⟩
        rw [ez] at k ⊢
        exact k
      · have ek : kind = 1 := Nat.beq_eq.mp k2
        subst ek
        obtain ⟨z, ez, -⟩ := y_isL_g k5 hv
        refine hcl _ ⟨_, _, hd, Or.inr (Or.inr (Or.inr (Or.inl (Or.inr (Or.inr (Or.inr (Or.inl ⟨q, ad, n, f, i, ys, rfl, rfl, rfl, hget, hin, ?_⟩)))))))⟩
        rw [ez] at k ⊢
        exact k
      · have ek : kind = 2 ∨ kind = 3 := by
          have h2' : (Nat.beq kind 2 || Nat.beq kind 3) = true := k2
          rw [Bool.or_eq_true, Nat.beq_eq, Nat.beq_eq] at h2'
          exact h2'
        have hz : ∃ z, f i.toNatClampNeg = .int z := by
          rcases ek with rfl | rfl
          · have k5' : (Nat.beq (y_sp (true, 2, n, l) 0).1 0 && (decide (0 ≤ (y_sp (true, 2, n, l) 0).2.1) && decide ((y_sp (true, 2, n, l) 0).2.2.1 ≤ 1))) = true := k5
            rw [Bool.and_eq_true] at k5'
            obtain ⟨z, ez, -⟩ := y_isI_g k5'.1 hv
            exact ⟨z, ez⟩
          · have k5' : (Nat.beq (y_sp (true, 3, n, l) 0).1 0 && (decide (-128 ≤ (y_sp (true, 3, n, l) 0).2.1) && decide ((y_sp (true, 3, n, l) 0).2.2.1 ≤ 127))) = true := k5
            rw [Bool.and_eq_true] at k5'
            obtain ⟨z, ez, -⟩ := y_isI_g k5'.1 hv
            exact ⟨z, ez⟩
        obtain ⟨z, ez⟩ := hz
        refine hcl _ ⟨_, _, hd, Or.inr (Or.inr (Or.inr (Or.inl (Or.inr (Or.inr (Or.inr (Or.inr (Or.inl ⟨q, ad, kind, n, f, i, ys, rfl, rfl, rfl, ek, hget, hin, ?_⟩))))))))⟩
        rw [ez] at k ⊢
        exact k
      · have ek : kind = 4 := Nat.beq_eq.mp k2
        subst ek
        have k5' : Nat.beq (y_sp (true, 4, n, l) 0).1 3 = true := k5
        have hz : f i.toNatClampNeg = .null ∨ ∃ z, f i.toNatClampNeg = .ref z := by
          generalize y_sp (true, 4, n, l) 0 = v at hv k5'
          obtain ⟨g, lo, hi, kk, c⟩ := v
          have hgg : g = 3 := Nat.beq_eq.mp k5'
          subst hgg
          rcases hv with e9 | ⟨q9, a9, e9, -⟩
          · exact Or.inl e9
          · exact Or.inr ⟨a9, e9⟩
        refine hcl _ ⟨_, _, hd, Or.inr (Or.inr (Or.inr (Or.inl (Or.inr (Or.inr (Or.inr (Or.inr (Or.inr (Or.inl ⟨q, ad, n, f, i, ys, rfl, rfl, rfl, hget, hin, ?_⟩)))))))))⟩
        rcases hz with ez | ⟨z, ez⟩ <;> rw [ez] at k ⊢ <;> exact k
    next => cases e
  next => cases e
theorem y_q33_ok (hcl : ∀ S, g_pre CALL o nL ini bc bs cc P S → P S) (hQ : s_asn ins = a) (ha : a < 4) (hd : decode cc pc = .ok (ins, 1)) (hgo : s_pc t = pc + 1) (hH : y_H R W h) (hL : y_gL W β L Ls) (hS : y_gS W β Ls st sts) (e : y_q33 R t L st a = some Xs) (hN : y_N R P W β Xs) : P (pc, Ls, sts, 0, 0, h) := by
  unfold y_q33 at e
  split at e
  next v j u rest =>
    split at e
    next ro e1 =>
      obtain ⟨h1, h2⟩ := s_bif e
      cases h2
      simp only [Bool.and_eq_true, Nat.blt_eq] at h1
      obtain ⟨k1, k2, k3, k4, k5, k6, k7⟩ := h1
      obtain ⟨w, ws, rfl, hg0, -, hS0⟩ := y_gS_cons hS
      obtain ⟨x, xs, rfl, hg, -, hS'⟩ := y_gS_cons hS0
      obtain ⟨y, ys, rfl, hg2, -, hS2⟩ := y_gS_cons hS'
      have hro := e1
      obtain ⟨q, ad, f, rfl, hq, hget, hf⟩ := y_ro_ok e1 hg2 hH
      have hR : R[u.1.2.1.toNat]? = some ro := by
        unfold y_ro at hro
        exact (s_bif hro).2
      obtain ⟨i, rfl, hin, hlt⟩ := y_inb_ok k4 hg
      have hv : y_g W (fun _ => 0) (y_sp ro 0) w := y_plain_g k5 (y_le_ok k6 hg0)
      obtain ⟨isA, kind, n, l⟩ := ro
      have k1' : isA = true := k1
      subst k1'
      have hsp : ∀ j, y_sp (true, kind, n, l) j = y_sp (true, kind, n, l) 0 := fun j => by cases l <;> rfl
      have hH2 : y_H R W (h.set q (ad, true, kind, n, g_up f i.toNatClampNeg w)) := y_H_set (ro := (true, kind, n, l)) (f := f) hH hq hR (fun j hj => by
        unfold g_up
        by_cases hjb : j = i.toNatClampNeg
        · rw [if_pos hjb, hsp]
          exact hv
        · rw [if_neg hjb]
          exact hf j hj)
      have k := y_N1 hN hH2 hL hS2
      rw [show s_pc t = pc + 1 from hgo] at k
      have k3' : kind < 4 := k3
      rcases s_as_i hQ ha with ⟨rfl, rfl⟩ | ⟨rfl, rfl⟩ | ⟨rfl, rfl⟩ | ⟨rfl, rfl⟩
      · have ek : kind = 0 := Nat.beq_eq.mp k2
        subst ek
        obtain ⟨z, rfl, -⟩ := y_isI_g k7 hg0
        exact hcl _ ⟨_, _, hd, Or.inr (Or.inr (Or.inr (Or.inl (Or.inr (Or.inr (Or.inr (Or.inr (Or.inr (Or.inr (Or.inl ⟨q, ad, n, f, i, z, ys, rfl, rfl, rfl, hget, hin, k⟩))))))))))⟩
      · have ek : kind = 1 := Nat.beq_eq.mp k2
        subst ek
        obtain ⟨z, rfl, -⟩ := y_isL_g k7 hg0
        exact hcl _ ⟨_, _, hd, Or.inr (Or.inr (Or.inr (Or.inl (Or.inr (Or.inr (Or.inr (Or.inr (Or.inr (Or.inr (Or.inr (Or.inl ⟨q, ad, n, f, i, z, ys, rfl, rfl, rfl, hget, hin, k⟩)))))))))))⟩
      · have ek : kind = 2 ∨ kind = 3 := by
          have h2' : (Nat.beq kind 2 || Nat.beq kind 3) = true := k2
          rw [Bool.or_eq_true, Nat.beq_eq, Nat.beq_eq] at h2'
          exact h2'
        rcases ek with rfl | rfl
        · have k7' : (Nat.beq v.1.1 0 && (decide (0 ≤ v.1.2.1) && decide (v.1.2.2.1 ≤ 1))) = true := k7
          rw [Bool.and_eq_true, Bool.and_eq_true, decide_eq_true_eq, decide_eq_true_eq] at k7'
          obtain ⟨z, rfl, hz⟩ := y_isI_g k7'.1 hg0
          have z1 := hz.1
          have z2 := hz.2.1
          have h0 : (0 : Int32).toInt = 0 := rfl
          have h1 : (1 : Int32).toInt = 1 := rfl
          have hzz : vp_nar .boolean z = z := by
            rcases (show z.toInt = 0 ∨ z.toInt = 1 by omega) with h | h
            · rw [Int32.toInt_inj.mp (h.trans h0.symm)]; decide
            · rw [Int32.toInt_inj.mp (h.trans h1.symm)]; decide
          refine hcl _ ⟨_, _, hd, Or.inr (Or.inr (Or.inr (Or.inl (Or.inr (Or.inr (Or.inr (Or.inr (Or.inr (Or.inr (Or.inr (Or.inr (Or.inl ⟨q, ad, n, f, i, z, ys, rfl, rfl, rfl, hget, hin, ?_⟩))))))))))))⟩
          rw [hzz]
          exact k
        · have k7' : (Nat.beq v.1.1 0 && (decide (-128 ≤ v.1.2.1) && decide (v.1.2.2.1 ≤ 127))) = true := k7
          rw [Bool.and_eq_true, Bool.and_eq_true, decide_eq_true_eq, decide_eq_true_eq] at k7'
          obtain ⟨z, rfl, hz⟩ := y_isI_g k7'.1 hg0
          have z1 := hz.1
          have z2 := hz.2.1
          refine hcl _ ⟨_, _, hd, Or.inr (Or.inr (Or.inr (Or.inl (Or.inr (Or.inr (Or.inr (Or.inr (Or.inr (Or.inr (Or.inr (Or.inr (Or.inr (Or.inl ⟨q, ad, n, f, i, z, ys, rfl, rfl, rfl, hget, hin, ?_⟩)))))))))))))⟩
          rw [s_byte (by omega) (by omega)]
          exact k
      · have ek : kind = 4 := Nat.beq_eq.mp k2
        omega
    next => cases e
  next => cases e
end Y3
