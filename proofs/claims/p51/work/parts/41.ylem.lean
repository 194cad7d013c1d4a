-- kinds and bounds: what they say
section Y1
variable {W W' : y_W} {β β' : Nat → Int} {L : y_L} {Ls : g_L}
theorem y_cat {v : y_V} {x : Value} (h : y_g W β v x) : x.category = if y_c2 v = true then 2 else 1 := by
  obtain ⟨t, lo, hi, k, c⟩ := v
  match t, h with
  | 0, h => obtain ⟨n, rfl, -⟩ := h; rfl
  | 1, h => obtain ⟨n, rfl, -⟩ := h; rfl
  | 2, h => obtain ⟨q, a, rfl, -⟩ := h; rfl
  | 3, h =>
    rcases h with rfl | ⟨q, a, rfl, -⟩
    · rfl
    · rfl
  | 4, h =>
    have h' : x = .null := h
    subst h'
    rfl
  | _ + 5, h => exact h.elim
theorem y_gS_cons {t : y_T} {ts : List y_T} {sts : List Value} (h : y_gS W β Ls (t :: ts) sts) : ∃ x xs, sts = x :: xs ∧ y_g W β t.1 x ∧ (t.2 ≠ 0 → y_at β Ls (t.2 - 1) x) ∧ y_gS W β Ls ts xs := by
  cases sts with
  | nil => exact h.elim
  | cons x xs => exact ⟨x, xs, rfl, h.1.1, h.1.2, h.2⟩
theorem y_find_in : ∀ {L : y_L} {i : Nat} {v : y_V}, y_find L i = some v → (i, v) ∈ L
  | [], _, _, h => by cases h
  | (j, u) :: t, i, v, h => by
    rw [y_find] at h
    cases e : Nat.beq j i
    · rw [e, cond_false] at h
      exact List.mem_cons_of_mem _ (y_find_in h)
    · rw [e, cond_true] at h
      cases h
      rw [Nat.beq_eq] at e
      subst e
      exact List.mem_cons_self
theorem y_fil1_eq {α : Type} (i : Nat) : ∀ (l : y_L) (k : y_L → α), y_fil1 i l k = k (l.filter (fun q => !(q.1 == i) && !(q.1 + 1 == i && y_c2 q.2)))
  | [], _ => rfl
  | (j, u) :: t, k => by
    have e1 : Nat.beq j i = (j == i) := s_beq _ _
    have e2 : Nat.beq (j + 1) i = (j + 1 == i) := s_beq _ _
    simp only [y_fil1, List.filter_cons, e1, e2]
    cases (j == i) <;> cases (j + 1 == i) <;> cases (y_c2 u) <;> simp [y_fil1_eq i t]
theorem y_fil2_eq {α : Type} (i : Nat) : ∀ (l : y_L) (k : y_L → α), y_fil2 i l k = k (l.filter (fun q => !(q.1 == i) && (!(q.1 == i + 1) && !(q.1 + 1 == i && y_c2 q.2))))
  | [], _ => rfl
  | (j, u) :: t, k => by
    have e1 : Nat.beq j i = (j == i) := s_beq _ _
    have e2 : Nat.beq (j + 1) i = (j + 1 == i) := s_beq _ _
    have e3 : Nat.beq j (i + 1) = (j == i + 1) := s_beq _ _
    simp only [y_fil2, List.filter_cons, e1, e2, e3]
    cases (j == i) <;> cases (j + 1 == i) <;> cases (j == i + 1) <;> cases (y_c2 u) <;> simp [y_fil2_eq i t]
theorem y_clr_eq {α : Type} : ∀ (l : List y_T) (k : List y_T → α), y_clr l k = k (l.map (fun t => (t.1, 0)))
  | [], _ => rfl
  | t :: ts, k => by simp only [y_clr, y_clr_eq ts, List.map_cons]
theorem y_upd_eq {α : Type} (i : Nat) (v : y_V) : ∀ (l : y_L) (k : y_L → α), y_upd i v l k = k (l.map (fun q => if q.1 = i then (q.1, v) else q))
  | [], _ => rfl
  | (j, u) :: t, k => by
    have e1 : Nat.beq j i = (j == i) := s_beq _ _
    simp only [y_upd, y_upd_eq i v t, e1, List.map_cons]
    by_cases h : j = i
    · subst h; simp
    · have h1 : (j == i) = false := by simpa using h
      simp [h1, h]
theorem y_gS_clr {Ls' : g_L} : ∀ {ts : List y_T} {sts : List Value}, y_gS W β Ls ts sts → y_gS W β Ls' (ts.map (fun t => (t.1, 0))) sts
  | [], [], _ => trivial
  | [], _ :: _, h => h.elim
  | _ :: _, [], h => h.elim
  | t :: ts, x :: xs, h => ⟨⟨h.1.1, fun h0 => absurd rfl h0⟩, y_gS_clr h.2⟩
theorem y_at_m {i : Nat} {x : Value} (h : (i, x) ∈ Ls) (hi : i < 200000) : y_at β Ls i x := ⟨fun _ => h, fun h0 => absurd hi (Nat.not_lt.mpr h0)⟩
theorem y_gL_st1 {i : Nat} {v : y_V} {x : Value} (hi : i < 200000) (hL : y_gL W β L Ls) (hv : y_g W β v x) : y_gL W β ((i, v) :: L.filter (fun q => !(q.1 == i) && !(q.1 + 1 == i && y_c2 q.2))) (g_st1 i x Ls) := by
  intro q hq
  rcases List.mem_cons.mp hq with rfl | hq
  · exact ⟨x, y_at_m List.mem_cons_self hi, hv⟩
  · obtain ⟨hm, hf⟩ := List.mem_filter.mp hq
    obtain ⟨y, hy, hg⟩ := hL q hm
    refine ⟨y, ⟨fun h0 => List.mem_cons_of_mem _ (List.mem_filter.mpr ⟨hy.1 h0, ?_⟩), hy.2⟩, hg⟩
    have hc := y_cat hg
    simp only [Bool.and_eq_true, Bool.not_eq_true'] at hf ⊢
    refine ⟨hf.1, ?_⟩
    have h2 := hf.2
    cases e1 : (q.1 + 1 == i)
    · rfl
    · rw [e1, Bool.true_and] at h2
      rw [h2] at hc
      rw [hc]
      rfl
theorem y_gL_st2 {i : Nat} {v : y_V} {x : Value} (hi : i < 200000) (hL : y_gL W β L Ls) (hv : y_g W β v x) : y_gL W β ((i, v) :: L.filter (fun q => !(q.1 == i) && (!(q.1 == i + 1) && !(q.1 + 1 == i && y_c2 q.2)))) (g_st2 i x Ls) := by
  intro q hq
  rcases List.mem_cons.mp hq with rfl | hq
  · exact ⟨x, y_at_m List.mem_cons_self hi, hv⟩
  · obtain ⟨hm, hf⟩ := List.mem_filter.mp hq
    obtain ⟨y, hy, hg⟩ := hL q hm
    refine ⟨y, ⟨fun h0 => List.mem_cons_of_mem _ (List.mem_filter.mpr ⟨hy.1 h0, ?_⟩), hy.2⟩, hg⟩
    have hc := y_cat hg
    simp only [Bool.and_eq_true, Bool.not_eq_true'] at hf ⊢
    refine ⟨hf.1, hf.2.1, ?_⟩
    have h2 := hf.2.2
    cases e1 : (q.1 + 1 == i)
    · rfl
    · rw [e1, Bool.true_and] at h2
      rw [h2] at hc
      rw [hc]
      rfl
theorem y_gL_upd {i : Nat} {v : y_V} {x : Value} (hL : y_gL W β L Ls) (hx : y_at β Ls i x) (hv : y_g W β v x) : y_gL W β (L.map (fun q => if q.1 = i then (q.1, v) else q)) Ls := by
  intro q hq
  obtain ⟨q0, h0, rfl⟩ := List.mem_map.mp hq
  by_cases h : q0.1 = i
  · rw [if_pos h]
    exact ⟨x, by rw [h]; exact hx, hv⟩
  · rw [if_neg h]
    exact hL q0 h0
theorem y_leq_ok {v w : y_Q} (h : y_leq v w = true) {n : Int} (hv : y_rl β v n) : y_rl β w n := by
  obtain ⟨k, c, m, d⟩ := v
  obtain ⟨k', c', m', d'⟩ := w
  simp only [y_leq, Bool.and_eq_true, Bool.or_eq_true, Nat.beq_eq, decide_eq_true_eq] at h
  obtain ⟨h1, h2⟩ := h
  obtain ⟨v1, v2⟩ := hv
  refine ⟨fun h0 => ?_, fun h0 => ?_⟩
  · rcases h1 with h1 | ⟨h1, h3⟩
    · exact absurd h1 h0
    · show n = β k' + c'
      rw [h1, h3]
      exact v1 (by show k ≠ 0; rw [← h1]; exact h0)
  · show n ≤ β m' + d'
    rcases h2 with h2 | ⟨h2, h3⟩ | ⟨h2, h3⟩
    · exact absurd h2 h0
    · have : n ≤ β m + d := v2 (by show m ≠ 0; rw [← h2]; exact h0)
      rw [h2]
      omega
    · have : n = β k + c := v1 (by show k ≠ 0; rw [← h2]; exact h0)
      rw [h2]
      omega
/-- a value that may stand where another is told -/
theorem y_le_ok {v w : y_V} (h : y_le v w = true) {x : Value} (hv : y_g W β v x) : y_g W β w x := by
  obtain ⟨t, lo, hi, r⟩ := v
  obtain ⟨t', lo', hi', r'⟩ := w
  unfold y_le at h
  match t', h with
  | 0, h =>
    simp only [Bool.and_eq_true, Nat.beq_eq, decide_eq_true_eq] at h
    obtain ⟨rfl, h1, h2, h3⟩ := h
    obtain ⟨n, rfl, b1, b2, b3⟩ := hv
    exact ⟨n, rfl, by omega, by omega, y_leq_ok h3 b3⟩
  | 1, h =>
    simp only [Bool.and_eq_true, Nat.beq_eq, decide_eq_true_eq] at h
    obtain ⟨rfl, h1, h2, h3⟩ := h
    obtain ⟨n, rfl, b1, b2, b3⟩ := hv
    exact ⟨n, rfl, by omega, by omega, y_leq_ok h3 b3⟩
  | 2, h =>
    simp only [Bool.and_eq_true, Nat.beq_eq, decide_eq_true_eq] at h
    obtain ⟨rfl, h1⟩ := h
    obtain ⟨q, a, rfl, hq⟩ := hv
    exact ⟨q, a, rfl, by rw [← h1]; exact hq⟩
  | 3, h =>
    simp only [Bool.and_eq_true, Nat.beq_eq, decide_eq_true_eq, Bool.or_eq_true] at h
    rcases h with rfl | ⟨rfl | rfl, h1⟩
    · exact Or.inl hv
    · obtain ⟨q, a, rfl, hq⟩ := hv
      exact Or.inr ⟨q, a, rfl, by rw [← h1]; exact hq⟩
    · rcases hv with rfl | ⟨q, a, rfl, hq⟩
      · exact Or.inl rfl
      · exact Or.inr ⟨q, a, rfl, by rw [← h1]; exact hq⟩
  | 4, h =>
    simp only [Nat.beq_eq] at h
    subst h
    exact hv
/-- where the names that it tells of stand for the same -/
theorem y_same_r {r : y_Q} (h1 : r.1 ≠ 0 → β' r.1 = β r.1) (h2 : r.2.2.1 ≠ 0 → β' r.2.2.1 = β r.2.2.1) {n : Int} (h : y_rl β r n) : y_rl β' r n :=
  ⟨fun h0 => by rw [h1 h0]; exact h.1 h0, fun h0 => by rw [h2 h0]; exact h.2 h0⟩
theorem y_same_g {v : y_V} (h1 : v.2.2.2.1 ≠ 0 → β' v.2.2.2.1 = β v.2.2.2.1) (h2 : v.2.2.2.2.2.1 ≠ 0 → β' v.2.2.2.2.2.1 = β v.2.2.2.2.2.1) {x : Value} (h : y_g W β v x) : y_g W β' v x := by
  obtain ⟨t, lo, hi, r⟩ := v
  match t, h with
  | 0, ⟨n, e, b1, b2, b3⟩ => exact ⟨n, e, b1, b2, y_same_r h1 h2 b3⟩
  | 1, ⟨n, e, b1, b2, b3⟩ => exact ⟨n, e, b1, b2, y_same_r h1 h2 b3⟩
  | 2, h => exact h
  | 3, h => exact h
  | 4, h => exact h
/-- in a greater world -/
theorem y_ext_g (hW : W <+: W') {v : y_V} {x : Value} (h : y_g W β v x) : y_g W' β v x := by
  have up : ∀ {q : Nat} {p : Nat × Nat}, W[q]? = some p → W'[q]? = some p := by
    intro q p hq
    obtain ⟨T, rfl⟩ := hW
    rw [List.getElem?_append_left (List.getElem?_eq_some_iff.mp hq).1]
    exact hq
  obtain ⟨t, lo, hi, k, c⟩ := v
  match t, h with
  | 0, h => exact h
  | 1, h => exact h
  | 2, ⟨q, a, e, hq⟩ => exact ⟨q, a, e, up hq⟩
  | 3, h =>
    rcases h with e | ⟨q, a, e, hq⟩
    · exact Or.inl e
    · exact Or.inr ⟨q, a, e, up hq⟩
  | 4, h => exact h
theorem y_ext_L (hW : W <+: W') (h : y_gL W β L Ls) : y_gL W' β L Ls := fun q hq => by
  obtain ⟨x, h1, h2⟩ := h q hq
  exact ⟨x, h1, y_ext_g hW h2⟩
theorem y_ext_S (hW : W <+: W') : ∀ {ts : List y_T} {sts : List Value}, y_gS W β Ls ts sts → y_gS W' β Ls ts sts
  | [], [], _ => trivial
  | [], _ :: _, h => h.elim
  | _ :: _, [], h => h.elim
  | t :: ts, x :: xs, h => ⟨⟨y_ext_g hW h.1.1, h.1.2⟩, y_ext_S hW h.2⟩
-- numbers
theorem y_rl_z (n : Int) : y_rl β y_z n := ⟨fun h => absurd rfl h, fun h => absurd rfl h⟩
theorem y_any32 (z : Int32) : y_g W β y_i32 (.int z) := ⟨z, rfl, Int32.le_toInt z, by have := Int32.toInt_lt z; omega, y_rl_z _⟩
theorem y_any64 (z : Int64) : y_g W β y_i64 (.long z) := ⟨z, rfl, Int64.le_toInt z, by have := Int64.toInt_lt z; omega, y_rl_z _⟩
theorem y_mk32_ok {z : Int32} {s lo hi : Int} {r : y_Q} (hz : z.toInt = s.bmod (2 ^ 32)) (h1 : lo ≤ s) (h2 : s ≤ hi) (hr : y_rl β r s) : y_g W β (y_mk32 lo hi r) (.int z) := by
  unfold y_mk32
  cases e : y_in32 lo hi
  · exact y_any32 z
  · unfold y_in32 at e
    rw [Bool.and_eq_true, decide_eq_true_eq, decide_eq_true_eq] at e
    have hz' : z.toInt = s := by
      rw [hz]
      apply Int.bmod_eq_of_le <;> omega
    exact ⟨z, rfl, by rw [hz']; exact h1, by rw [hz']; exact h2, by rw [hz']; exact hr⟩
theorem y_mk64_ok {z : Int64} {s lo hi : Int} {r : y_Q} (hz : z.toInt = s.bmod (2 ^ 64)) (h1 : lo ≤ s) (h2 : s ≤ hi) (hr : y_rl β r s) : y_g W β (y_mk64 lo hi r) (.long z) := by
  unfold y_mk64
  cases e : y_in64 lo hi
  · exact y_any64 z
  · unfold y_in64 at e
    rw [Bool.and_eq_true, decide_eq_true_eq, decide_eq_true_eq] at e
    have hz' : z.toInt = s := by
      rw [hz]
      apply Int.bmod_eq_of_le <;> omega
    exact ⟨z, rfl, by rw [hz']; exact h1, by rw [hz']; exact h2, by rw [hz']; exact hr⟩
/-- a number with its bounds and what is known of it -/
def y_num (β : Nat → Int) (v : y_V) (n : Int) : Prop := v.2.1 ≤ n ∧ n ≤ v.2.2.1 ∧ y_rl β v.2.2.2 n
theorem y_sh_ok {r : y_Q} {n x y : Int} (h : y_rl β r x) (hy : y = n) : y_rl β (y_sh r n) (x + y) := by
  refine ⟨fun h0 => ?_, fun h0 => ?_⟩
  · have := h.1 h0
    show x + y = β r.1 + (r.2.1 + n)
    omega
  · have := h.2 h0
    show x + y ≤ β r.2.2.1 + (r.2.2.2 + n)
    omega
theorem y_addI_ok {x y : y_V} {m n : Int} (hx : y_num β x m) (hy : y_num β y n) : (y_addI x y).1.1 ≤ m + n ∧ m + n ≤ (y_addI x y).1.2 ∧ y_rl β (y_addI x y).2 (m + n) := by
  obtain ⟨a1, a2, a3⟩ := hx
  obtain ⟨b1, b2, b3⟩ := hy
  refine ⟨by show x.2.1 + y.2.1 ≤ _; omega, by show _ ≤ x.2.2.1 + y.2.2.1; omega, ?_⟩
  unfold y_addI
  dsimp only
  cases e1 : decide (y.2.1 = y.2.2.1)
  · cases e2 : decide (x.2.1 = x.2.2.1)
    · exact y_rl_z _
    · have e2 := of_decide_eq_true e2
      rw [Int.add_comm m n]
      exact y_sh_ok b3 (by omega)
  · have e1 := of_decide_eq_true e1
    exact y_sh_ok a3 (by omega)
theorem y_subI_ok {x y : y_V} {m n : Int} (hx : y_num β x m) (hy : y_num β y n) : (y_subI x y).1.1 ≤ m - n ∧ m - n ≤ (y_subI x y).1.2 ∧ y_rl β (y_subI x y).2 (m - n) := by
  obtain ⟨a1, a2, a3⟩ := hx
  obtain ⟨b1, b2, b3⟩ := hy
  refine ⟨?_, by show _ ≤ x.2.2.1 - y.2.1; omega, ?_⟩
  · show y_dif x.2.2.2 y.2.2.2 (x.2.1 - y.2.2.1) ≤ m - n
    have h0 : x.2.1 - y.2.2.1 ≤ m - n := by omega
    unfold y_dif
    cases e1 : Nat.beq x.2.2.2.1 0
    · cases e2 : Nat.beq x.2.2.2.1 y.2.2.2.2.2.1
      · exact h0
      · have hk : x.2.2.2.1 ≠ 0 := fun hk => by rw [hk] at e1; cases e1
        rw [Nat.beq_eq] at e2
        have p1 := a3.1 hk
        have p2 := b3.2 (by rw [← e2]; exact hk)
        rw [← e2] at p2
        exact s_max_le h0 (by omega)
    · exact h0
  · unfold y_subI
    dsimp only
    cases e1 : decide (y.2.1 = y.2.2.1)
    · exact y_rl_z _
    · have e1 := of_decide_eq_true e1
      rw [show m - n = m + -n by omega]
      exact y_sh_ok a3 (by omega)
theorem s_min_1 (a b : Int) : s_min a b ≤ a := by
  unfold s_min
  cases e : decide (a ≤ b)
  · have := of_decide_eq_false e
    show b ≤ a
    omega
  · exact Int.le_refl _
theorem s_min_2 (a b : Int) : s_min a b ≤ b := by
  unfold s_min
  cases e : decide (a ≤ b)
  · exact Int.le_refl _
  · exact of_decide_eq_true e
theorem s_max_1 (a b : Int) : a ≤ s_max a b := by
  unfold s_max
  cases e : decide (a ≤ b)
  · exact Int.le_refl _
  · exact of_decide_eq_true e
theorem s_max_2 (a b : Int) : b ≤ s_max a b := by
  unfold s_max
  cases e : decide (a ≤ b)
  · have := of_decide_eq_false e
    show b ≤ a
    omega
  · exact Int.le_refl _
theorem y_lin {a b x c : Int} (h1 : a ≤ x) (h2 : x ≤ b) : s_min (a * c) (b * c) ≤ x * c ∧ x * c ≤ s_max (a * c) (b * c) := by
  by_cases hc : 0 ≤ c
  · exact ⟨Int.le_trans (s_min_1 _ _) (Int.mul_le_mul_of_nonneg_right h1 hc), Int.le_trans (Int.mul_le_mul_of_nonneg_right h2 hc) (s_max_2 _ _)⟩
  · have hc' : c ≤ 0 := by omega
    exact ⟨Int.le_trans (s_min_2 _ _) (Int.mul_le_mul_of_nonpos_right h2 hc'), Int.le_trans (Int.mul_le_mul_of_nonpos_right h1 hc') (s_max_1 _ _)⟩
theorem y_mulI_ok {x y : y_V} {m n : Int} (a1 : x.2.1 ≤ m) (a2 : m ≤ x.2.2.1) (b1 : y.2.1 ≤ n) (b2 : n ≤ y.2.2.1) : (y_mulI x y).1 ≤ m * n ∧ m * n ≤ (y_mulI x y).2 := by
  unfold y_mulI
  dsimp only
  obtain ⟨p1, p2⟩ := y_lin (c := m) b1 b2
  rw [Int.mul_comm n m, Int.mul_comm y.2.1 m, Int.mul_comm y.2.2.1 m] at p1 p2
  obtain ⟨q1, q2⟩ := y_lin (c := y.2.1) a1 a2
  obtain ⟨r1, r2⟩ := y_lin (c := y.2.2.1) a1 a2
  have e1 := s_min_1 (s_min (x.2.1 * y.2.1) (x.2.1 * y.2.2.1)) (s_min (x.2.2.1 * y.2.1) (x.2.2.1 * y.2.2.1))
  have e2 := s_min_2 (s_min (x.2.1 * y.2.1) (x.2.1 * y.2.2.1)) (s_min (x.2.2.1 * y.2.1) (x.2.2.1 * y.2.2.1))
  have e3 := s_min_1 (x.2.1 * y.2.1) (x.2.1 * y.2.2.1)
  have e4 := s_min_2 (x.2.1 * y.2.1) (x.2.1 * y.2.2.1)
  have e5 := s_min_1 (x.2.2.1 * y.2.1) (x.2.2.1 * y.2.2.1)
  have e6 := s_min_2 (x.2.2.1 * y.2.1) (x.2.2.1 * y.2.2.1)
  have f1 := s_max_1 (s_max (x.2.1 * y.2.1) (x.2.1 * y.2.2.1)) (s_max (x.2.2.1 * y.2.1) (x.2.2.1 * y.2.2.1))
  have f2 := s_max_2 (s_max (x.2.1 * y.2.1) (x.2.1 * y.2.2.1)) (s_max (x.2.2.1 * y.2.1) (x.2.2.1 * y.2.2.1))
  have f3 := s_max_1 (x.2.1 * y.2.1) (x.2.1 * y.2.2.1)
  have f4 := s_max_2 (x.2.1 * y.2.1) (x.2.1 * y.2.2.1)
  have f5 := s_max_1 (x.2.2.1 * y.2.1) (x.2.2.1 * y.2.2.1)
  have f6 := s_max_2 (x.2.2.1 * y.2.1) (x.2.2.1 * y.2.2.1)
  have g1 : s_min (s_min (x.2.1 * y.2.1) (x.2.1 * y.2.2.1)) (s_min (x.2.2.1 * y.2.1) (x.2.2.1 * y.2.2.1)) ≤ s_min (x.2.1 * y.2.1) (x.2.2.1 * y.2.1) := s_min_le (by omega) (by omega)
  have g2 : s_min (s_min (x.2.1 * y.2.1) (x.2.1 * y.2.2.1)) (s_min (x.2.2.1 * y.2.1) (x.2.2.1 * y.2.2.1)) ≤ s_min (x.2.1 * y.2.2.1) (x.2.2.1 * y.2.2.1) := s_min_le (by omega) (by omega)
  have g3 : s_max (x.2.1 * y.2.1) (x.2.2.1 * y.2.1) ≤ s_max (s_max (x.2.1 * y.2.1) (x.2.1 * y.2.2.1)) (s_max (x.2.2.1 * y.2.1) (x.2.2.1 * y.2.2.1)) := s_max_le (by omega) (by omega)
  have g4 : s_max (x.2.1 * y.2.2.1) (x.2.2.1 * y.2.2.1) ≤ s_max (s_max (x.2.1 * y.2.1) (x.2.1 * y.2.2.1)) (s_max (x.2.2.1 * y.2.1) (x.2.2.1 * y.2.2.1)) := s_max_le (by omega) (by omega)
  have h1 : s_min (s_min (x.2.1 * y.2.1) (x.2.1 * y.2.2.1)) (s_min (x.2.2.1 * y.2.1) (x.2.2.1 * y.2.2.1)) ≤ s_min (m * y.2.1) (m * y.2.2.1) := s_min_le (Int.le_trans g1 q1) (Int.le_trans g2 r1)
  have h2 : s_max (m * y.2.1) (m * y.2.2.1) ≤ s_max (s_max (x.2.1 * y.2.1) (x.2.1 * y.2.2.1)) (s_max (x.2.2.1 * y.2.1) (x.2.2.1 * y.2.2.1)) := s_max_le (Int.le_trans q2 g3) (Int.le_trans r2 g4)
  exact ⟨Int.le_trans h1 p1, Int.le_trans p2 h2⟩
/-- a kind told by its parts -/
theorem y_isI_g {v : y_V} (h : Nat.beq v.1 0 = true) {x : Value} (hv : y_g W β v x) : ∃ n : Int32, x = .int n ∧ y_num β v n.toInt := by
  obtain ⟨t, lo, hi, k, c⟩ := v
  have ht : t = 0 := Nat.beq_eq.mp h
  subst ht
  obtain ⟨n, e, b1, b2, b3⟩ := hv
  exact ⟨n, e, b1, b2, b3⟩
theorem y_isL_g {v : y_V} (h : Nat.beq v.1 1 = true) {x : Value} (hv : y_g W β v x) : ∃ n : Int64, x = .long n ∧ y_num β v n.toInt := by
  obtain ⟨t, lo, hi, k, c⟩ := v
  have ht : t = 1 := Nat.beq_eq.mp h
  subst ht
  obtain ⟨n, e, b1, b2, b3⟩ := hv
  exact ⟨n, e, b1, b2, b3⟩
theorem y_bin32_ok {a : Nat} {x y : y_V} {m n : Int32} (hx : y_num β x m.toInt) (hy : y_num β y n.toInt) : y_g W β (y_bin32 a x y) (.int (s_fib a m n)) := by
  match a with
  | 0 =>
    obtain ⟨h1, h2, h3⟩ := y_addI_ok hx hy
    exact y_mk32_ok (Int32.toInt_add m n) h1 h2 h3
  | 1 =>
    obtain ⟨h1, h2, h3⟩ := y_subI_ok hx hy
    exact y_mk32_ok (Int32.toInt_sub m n) h1 h2 h3
  | 2 =>
    obtain ⟨h1, h2⟩ := y_mulI_ok hx.1 hx.2.1 hy.1 hy.2.1
    exact y_mk32_ok (Int32.toInt_mul m n) h1 h2 (y_rl_z _)
  | _ + 3 => exact y_any32 _
theorem y_bin64_ok {a : Nat} {x y : y_V} {m n : Int64} (hx : y_num β x m.toInt) (hy : y_num β y n.toInt) : y_g W β (y_bin64 a x y) (.long (s_flb a m n)) := by
  match a with
  | 0 =>
    obtain ⟨h1, h2, h3⟩ := y_addI_ok hx hy
    exact y_mk64_ok (Int64.toInt_add m n) h1 h2 h3
  | 1 =>
    obtain ⟨h1, h2, h3⟩ := y_subI_ok hx hy
    exact y_mk64_ok (Int64.toInt_sub m n) h1 h2 h3
  | _ + 2 =>
    obtain ⟨h1, h2⟩ := y_mulI_ok hx.1 hx.2.1 hy.1 hy.2.1
    exact y_mk64_ok (Int64.toInt_mul m n) h1 h2 (y_rl_z _)
theorem y_dv {m n : Int} {B : Int} (hm : 0 ≤ m) (hn : 0 < n) (hB : m < B) : 0 ≤ m.tdiv n ∧ m.tdiv n ≤ m ∧ 0 ≤ m.tdiv n * n ∧ m.tdiv n * n ≤ m ∧ m - m.tdiv n * n < n := by
  have e1 : m.tdiv n = m / n := Int.tdiv_eq_ediv_of_nonneg hm
  have q0 : 0 ≤ m / n := Int.ediv_nonneg hm (Int.le_of_lt hn)
  have q1 : m / n * n ≤ m := Int.ediv_mul_le _ (by omega)
  have q2 : m / n ≤ m := Int.ediv_le_self _ hm
  have q3 : 0 ≤ m / n * n := Int.mul_nonneg q0 (Int.le_of_lt hn)
  have q4 := Int.emod_lt_of_pos m hn
  have q5 := Int.emod_def m n
  rw [Int.mul_comm] at q5
  rw [e1]
  exact ⟨q0, q2, q3, q1, by omega⟩
theorem y_abm_ok {x : y_V} {m n : Int} (h1 : x.2.1 ≤ m) (h2 : m ≤ x.2.2.1) : -(y_abm x) ≤ m.tdiv n ∧ m.tdiv n ≤ y_abm x := by
  have a1 : -x.2.1 ≤ y_abm x := s_max_1 _ _
  have a2 : x.2.2.1 ≤ y_abm x := s_max_2 _ _
  have a3 := Int.natAbs_tdiv_le_natAbs m n
  omega
theorem y_div32_ok {a : Nat} {x y : y_V} {m n : Int32} (hx : y_num β x m.toInt) (hy : y_num β y n.toInt) : y_g W β (y_div32 a x y) (.int (s_fid a m n)) := by
  unfold y_div32
  cases e : (decide (0 ≤ x.2.1) && decide (0 < y.2.1))
  · rw [cond_false]
    match a with
    | 0 =>
      obtain ⟨d1, d2⟩ := y_abm_ok (n := n.toInt) hx.1 hx.2.1
      exact y_mk32_ok (Int32.toInt_div m n) d1 d2 (y_rl_z _)
    | _ + 1 => exact y_any32 _
  · rw [Bool.and_eq_true, decide_eq_true_eq, decide_eq_true_eq] at e
    have hm : 0 ≤ m.toInt := Int.le_trans e.1 hx.1
    have hn : 0 < n.toInt := Int.lt_of_lt_of_le e.2 hy.1
    have hM := Int32.toInt_lt m
    have hM2 := Int32.le_toInt m
    have hx2 := hx.2.1
    have hy2 := hy.2.1
    obtain ⟨d1, d2, d3, d4, d5⟩ := y_dv hm hn hM
    have f1 : (m / n).toInt = m.toInt.tdiv n.toInt := by
      rw [Int32.toInt_div]
      apply Int.bmod_eq_of_le <;> omega
    have f2 : (m / n * n).toInt = m.toInt.tdiv n.toInt * n.toInt := by
      rw [Int32.toInt_mul, f1]
      apply Int.bmod_eq_of_le <;> omega
    have f3 : (m - m / n * n).toInt = m.toInt - m.toInt.tdiv n.toInt * n.toInt := by
      rw [Int32.toInt_sub, f2]
      apply Int.bmod_eq_of_le <;> omega
    match a with
    | 0 => exact ⟨m / n, rfl, by rw [f1]; exact d1, by rw [f1]; omega, y_rl_z _⟩
    | _ + 1 => exact ⟨m - m / n * n, rfl, by rw [f3]; omega, by rw [f3]; omega, y_rl_z _⟩
theorem y_div64_ok {a : Nat} {x y : y_V} {m n : Int64} (hx : y_num β x m.toInt) (hy : y_num β y n.toInt) : y_g W β (y_div64 a x y) (.long (s_fld a m n)) := by
  unfold y_div64
  cases e : (decide (0 ≤ x.2.1) && decide (0 < y.2.1))
  · rw [cond_false]
    match a with
    | 0 =>
      obtain ⟨d1, d2⟩ := y_abm_ok (n := n.toInt) hx.1 hx.2.1
      exact y_mk64_ok (Int64.toInt_div m n) d1 d2 (y_rl_z _)
    | _ + 1 => exact y_any64 _
  · rw [Bool.and_eq_true, decide_eq_true_eq, decide_eq_true_eq] at e
    have hm : 0 ≤ m.toInt := Int.le_trans e.1 hx.1
    have hn : 0 < n.toInt := Int.lt_of_lt_of_le e.2 hy.1
    have hM := Int64.toInt_lt m
    have hM2 := Int64.le_toInt m
    have hx2 := hx.2.1
    have hy2 := hy.2.1
    obtain ⟨d1, d2, d3, d4, d5⟩ := y_dv hm hn hM
    have f1 : (m / n).toInt = m.toInt.tdiv n.toInt := by
      rw [Int64.toInt_div]
      apply Int.bmod_eq_of_le <;> omega
    have f2 : (m / n * n).toInt = m.toInt.tdiv n.toInt * n.toInt := by
      rw [Int64.toInt_mul, f1]
      apply Int.bmod_eq_of_le <;> omega
    have f3 : (m - m / n * n).toInt = m.toInt - m.toInt.tdiv n.toInt * n.toInt := by
      rw [Int64.toInt_sub, f2]
      apply Int.bmod_eq_of_le <;> omega
    match a with
    | 0 => exact ⟨m / n, rfl, by rw [f1]; exact d1, by rw [f1]; omega, y_rl_z _⟩
    | _ + 1 => exact ⟨m - m / n * n, rfl, by rw [f3]; omega, by rw [f3]; omega, y_rl_z _⟩
theorem y_un32_ok {a : Nat} {x : y_V} {m : Int32} (hx : y_num β x m.toInt) : y_g W β (y_un32 a x) (.int (s_fiu a m)) := by
  match a with
  | 0 =>
    show y_g W β (bif decide (-2147483648 < x.2.1) then (0, -x.2.2.1, -x.2.1, y_z) else y_i32) (.int (-m))
    cases e : decide (-2147483648 < x.2.1)
    · exact y_any32 _
    · have e := of_decide_eq_true e
      have h1 := Int32.toInt_lt m
      have hx1 := hx.1
      have hx2 := hx.2.1
      have f : (-m).toInt = -m.toInt := by
        rw [Int32.toInt_neg]
        apply Int.bmod_eq_of_le <;> omega
      exact ⟨-m, rfl, by rw [f]; omega, by rw [f]; omega, y_rl_z _⟩
  | 1 =>
    have e : (s_fiu 1 m).toInt = (m.toInt8).toInt := Int8.toInt_toInt32 _
    have h1 := Int8.le_toInt m.toInt8
    have h2 := Int8.toInt_lt m.toInt8
    exact ⟨_, rfl, by rw [e]; omega, by rw [e]; omega, y_rl_z _⟩
  | _ + 2 =>
    have e : (s_fiu 2 m).toInt = (m.toInt16).toInt := Int16.toInt_toInt32 _
    have h1 := Int16.le_toInt m.toInt16
    have h2 := Int16.toInt_lt m.toInt16
    exact ⟨_, rfl, by show -32768 ≤ (s_fiu 2 m).toInt; rw [e]; omega, by show (s_fiu 2 m).toInt ≤ 32767; rw [e]; omega, y_rl_z _⟩
/-- on a road of a branch: the bounds that hold there -/
theorem y_cnd_ok {cd : ClassFile.Cond} {a b c d m n : Int} (h1 : a ≤ m) (h2 : m ≤ b) (h3 : c ≤ n) (h4 : n ≤ d) (h : h_ci m n cd = true) :
    (y_cnd (s_cdn cd) a b c d).1.1 ≤ m ∧ m ≤ (y_cnd (s_cdn cd) a b c d).1.2 ∧ (y_cnd (s_cdn cd) a b c d).2.1 ≤ n ∧ n ≤ (y_cnd (s_cdn cd) a b c d).2.2 := by
  have ne : ∀ {lo hi p q u w : Int}, lo ≤ u → u ≤ hi → p ≤ w → w ≤ q → ¬ u = w → (y_ne lo hi p q).1 ≤ u ∧ u ≤ (y_ne lo hi p q).2 := by
    intro lo hi p q u w i1 i2 i3 i4 i5
    unfold y_ne
    cases e1 : (decide (p = q) && decide (lo = p))
    · cases e2 : (decide (p = q) && decide (hi = p))
      · exact ⟨i1, i2⟩
      · rw [Bool.and_eq_true, decide_eq_true_eq, decide_eq_true_eq] at e2
        exact ⟨i1, by show u ≤ hi - 1; omega⟩
    · rw [Bool.and_eq_true, decide_eq_true_eq, decide_eq_true_eq] at e1
      exact ⟨by show lo + 1 ≤ u; omega, i2⟩
  cases cd <;> simp only [h_ci, decide_eq_true_eq] at h
  · exact ⟨s_max_le h1 (by omega), s_min_le h2 (by omega), s_max_le (by omega) h3, s_min_le (by omega) h4⟩
  · exact ⟨(ne h1 h2 h3 h4 h).1, (ne h1 h2 h3 h4 h).2, (ne h3 h4 h1 h2 (fun e => h e.symm)).1, (ne h3 h4 h1 h2 (fun e => h e.symm)).2⟩
  · exact ⟨h1, s_min_le h2 (by omega), s_max_le h3 (by omega), h4⟩
  · exact ⟨s_max_le h1 (by omega), h2, h3, s_min_le h4 (by omega)⟩
  · exact ⟨s_max_le h1 (by omega), h2, h3, s_min_le h4 (by omega)⟩
  · exact ⟨h1, s_min_le h2 (by omega), s_max_le h3 (by omega), h4⟩
theorem y_cand_ok {y : y_Q} {m n d : Int} (h : m ≤ n + d) (hy : y_rl β y n) : (y_cand y d).1 ≠ 0 → m ≤ β (y_cand y d).1 + (y_cand y d).2 := by
  have p1 : y.1 ≠ 0 → m ≤ β y.1 + (y.2.1 + d) := fun h0 => by have := hy.1 h0; omega
  have p2 : y.2.2.1 ≠ 0 → m ≤ β y.2.2.1 + (y.2.2.2 + d) := fun h0 => by have := hy.2 h0; omega
  unfold y_cand
  cases Nat.ble 200000 y.1
  · cases Nat.ble 200000 y.2.2.1
    · cases Nat.beq y.1 0
      · exact p1
      · exact p2
    · exact p2
  · exact p1
theorem y_pick_ok {o c : Nat × Int} {m : Int} (h1 : o.1 ≠ 0 → m ≤ β o.1 + o.2) (h2 : c.1 ≠ 0 → m ≤ β c.1 + c.2) : (y_pick o c).1 ≠ 0 → m ≤ β (y_pick o c).1 + (y_pick o c).2 := by
  unfold y_pick
  cases Nat.beq c.1 0
  · cases Nat.beq o.1 0
    · cases e : Nat.beq o.1 c.1
      · cases Nat.ble 200000 o.1
        · exact h2
        · exact h1
      · rw [Nat.beq_eq] at e
        intro h0
        have q1 := h1 h0
        have q2 := h2 (by rw [← e]; exact h0)
        rw [← e] at q2
        show m ≤ β o.1 + s_min o.2 c.2
        have := s_min_le (x := m - β o.1) (a := o.2) (b := c.2) (by omega) (by omega)
        omega
    · exact h2
  · exact h1
theorem y_ubx_ok {x y : y_Q} {m n d : Int} (h : m ≤ n + d) (hx : y_rl β x m) (hy : y_rl β y n) : y_rl β (y_ubx x y d) m := ⟨hx.1, y_pick_ok (o := x.2.2) hx.2 (y_cand_ok h hy)⟩
theorem y_cq_ok {cd : ClassFile.Cond} {x y : y_Q} {m n : Int} (hx : y_rl β x m) (hy : y_rl β y n) (h : h_ci m n cd = true) : y_rl β (y_cq (s_cdn cd) x y).1 m ∧ y_rl β (y_cq (s_cdn cd) x y).2 n := by
  cases cd <;> simp only [h_ci, decide_eq_true_eq] at h
  · exact ⟨y_ubx_ok (by omega) hx hy, y_ubx_ok (by omega) hy hx⟩
  · exact ⟨hx, hy⟩
  · exact ⟨y_ubx_ok (by omega) hx hy, hy⟩
  · exact ⟨hx, y_ubx_ok (by omega) hy hx⟩
  · exact ⟨hx, y_ubx_ok (by omega) hy hx⟩
  · exact ⟨y_ubx_ok (by omega) hx hy, hy⟩
def y_ncd : ClassFile.Cond → ClassFile.Cond
  | .eq => .ne
  | .ne => .eq
  | .lt => .ge
  | .ge => .lt
  | .gt => .le
  | .le => .gt
theorem y_ncd_n (cd : ClassFile.Cond) : s_cdn (y_ncd cd) = y_neg (s_cdn cd) := by cases cd <;> rfl
theorem y_ncd_h {m n : Int} {cd : ClassFile.Cond} (h : ¬ h_ci m n cd = true) : h_ci m n (y_ncd cd) = true := by
  cases cd <;> simp only [h_ci, y_ncd, decide_eq_true_eq] at h ⊢ <;> omega
/-- by all that is known of a name -/
theorem y_fb_e {k : Nat} (hk : k ≠ 0) {j : Nat} {v : y_V} {lo hi : Int} (hv : ∃ x, y_at β Ls j x ∧ y_g W β v x) : (Nat.beq v.1 0 && Nat.beq v.2.2.2.1 k) = true → v.2.1 ≤ β k + v.2.2.2.2.1 ∧ β k + v.2.2.2.2.1 ≤ v.2.2.1 := by
  intro e
  obtain ⟨ea, eb⟩ := (Bool.and_eq_true _ _).mp e
  have eb := Nat.beq_eq.mp eb
  obtain ⟨x, -, hg⟩ := hv
  obtain ⟨n, -, b1, b2, b3⟩ := y_isI_g ea hg
  have := b3.1 (by rw [eb]; exact hk)
  rw [eb] at this
  omega
theorem y_fb_n {k : Nat} {j : Nat} {v : y_V} (hv : ∃ x, y_at β Ls j x ∧ y_g W β v x) : (Nat.ble 200000 k && (Nat.beq j k && Nat.beq v.1 0)) = true → v.2.1 ≤ β k ∧ β k ≤ v.2.2.1 := by
  intro e
  obtain ⟨ea, eb⟩ := (Bool.and_eq_true _ _).mp e
  obtain ⟨ec, h2⟩ := (Bool.and_eq_true _ _).mp eb
  have h0 := Nat.le_of_ble_eq_true ea
  have h1 := Nat.beq_eq.mp ec
  subst h1
  obtain ⟨x, hx, hg⟩ := hv
  obtain ⟨n, rfl, hn⟩ := hx.2 h0
  obtain ⟨m, em, b1, b2, -⟩ := y_isI_g h2 hg
  cases em
  omega
theorem y_fb_ok {k : Nat} (hk : k ≠ 0) {c n : Int} (hn : n = β k + c) : ∀ {L : y_L} {b : Int × Int}, y_gL W β L Ls → b.1 ≤ n → n ≤ b.2 → (y_fb k c L b).1 ≤ n ∧ n ≤ (y_fb k c L b).2
  | [], b, _, h1, h2 => ⟨h1, h2⟩
  | (j, v) :: t, b, hL, h1, h2 => by
    have hv : ∃ x, y_at β Ls j x ∧ y_g W β v x := hL _ List.mem_cons_self
    rw [y_fb]
    refine y_fb_ok hk hn (fun q hq => hL q (List.mem_cons_of_mem _ hq)) ?_ ?_
    · cases e1 : (Nat.beq v.1 0 && Nat.beq v.2.2.2.1 k)
      · cases e2 : (Nat.ble 200000 k && (Nat.beq j k && Nat.beq v.1 0))
        · exact h1
        · have := y_fb_n hv e2
          exact s_max_le h1 (by omega)
      · have := y_fb_e (lo := 0) (hi := 0) hk hv e1
        exact s_max_le h1 (by omega)
    · cases e1 : (Nat.beq v.1 0 && Nat.beq v.2.2.2.1 k)
      · cases e2 : (Nat.ble 200000 k && (Nat.beq j k && Nat.beq v.1 0))
        · exact h2
        · have := y_fb_n hv e2
          exact s_min_le h2 (by omega)
      · have := y_fb_e (lo := 0) (hi := 0) hk hv e1
        exact s_min_le h2 (by omega)
theorem y_fb_ub {k : Nat} (hk : k ≠ 0) {c n : Int} (hn : n ≤ β k + c) : ∀ {L : y_L} {b : Int × Int}, y_gL W β L Ls → n ≤ b.2 → n ≤ (y_fb k c L b).2
  | [], b, _, h2 => h2
  | (j, v) :: t, b, hL, h2 => by
    have hv : ∃ x, y_at β Ls j x ∧ y_g W β v x := hL _ List.mem_cons_self
    rw [y_fb]
    refine y_fb_ub hk hn (fun q hq => hL q (List.mem_cons_of_mem _ hq)) ?_
    cases e1 : (Nat.beq v.1 0 && Nat.beq v.2.2.2.1 k)
    · cases e2 : (Nat.ble 200000 k && (Nat.beq j k && Nat.beq v.1 0))
      · exact h2
      · have := y_fb_n hv e2
        exact s_min_le h2 (by omega)
    · have := y_fb_e (lo := 0) (hi := 0) hk hv e1
      exact s_min_le h2 (by omega)
theorem y_red_ok (hL : y_gL W β L Ls) {v : y_V} {x : Value} (h : y_g W β v x) : y_g W β (y_red L v) x := by
  unfold y_red
  cases e : Nat.beq v.1 0
  · exact h
  · rw [cond_true]
    obtain ⟨n, rfl, b1, b2, b3⟩ := y_isI_g e h
    have key : ∀ p : Int × Int, p.1 ≤ n.toInt → n.toInt ≤ p.2 → y_g W β (match p with
      | (lo, hi) => (0, lo, (bif Nat.beq v.2.2.2.2.2.1 0 then hi else (y_fb v.2.2.2.2.2.1 v.2.2.2.2.2.2 L (lo, hi)).2), v.2.2.2)) (.int n) := by
      intro p h1 h2
      obtain ⟨lo, hi⟩ := p
      refine ⟨n, rfl, h1, ?_, b3⟩
      cases e2 : Nat.beq v.2.2.2.2.2.1 0
      · have hk : v.2.2.2.2.2.1 ≠ 0 := fun h0 => by rw [h0] at e2; cases e2
        exact y_fb_ub hk (b3.2 hk) hL h2
      · exact h2
    cases e1 : Nat.beq v.2.2.2.1 0
    · have hk : v.2.2.2.1 ≠ 0 := fun h0 => by rw [h0] at e1; cases e1
      have := y_fb_ok hk (b3.1 hk) (b := (v.2.1, v.2.2.1)) hL b1 b2
      exact key _ this.1 this.2
    · exact key (v.2.1, v.2.2.1) b1 b2
/-- where a number that is a name plus c has bounds -/
def y_narKL (k : Nat) (c lo hi : Int) (L : y_L) : y_L := L.map (fun q => (q.1, bif Nat.beq q.2.1 0 && Nat.beq q.2.2.2.2.1 k then (0, s_max q.2.2.1 (lo - c + q.2.2.2.2.2.1), s_min q.2.2.2.1 (hi - c + q.2.2.2.2.2.1), q.2.2.2.2) else bif Nat.beq q.2.1 0 && (Nat.ble 200000 k && Nat.beq q.1 k) then (0, s_max q.2.2.1 (lo - c), s_min q.2.2.2.1 (hi - c), q.2.2.2.2) else q.2))
theorem y_narK_eq {α : Type} (k : Nat) (c lo hi : Int) : ∀ (L : y_L) (f : y_L → α), y_narK k c lo hi L f = f (y_narKL k c lo hi L)
  | [], _ => rfl
  | (j, v) :: t, f => by
    rw [y_narK]
    unfold y_narKL
    rw [List.map_cons]
    cases e1 : (Nat.beq v.1 0 && Nat.beq v.2.2.2.1 k)
    · cases e2 : (Nat.beq v.1 0 && (Nat.ble 200000 k && Nat.beq j k))
      · simp only [cond_false, y_narK_eq k c lo hi t]
        rfl
      · simp only [cond_false, cond_true, y_fv_eq, y_narK_eq k c lo hi t]
        rfl
    · simp only [cond_true, y_fv_eq, y_narK_eq k c lo hi t]
      rfl
theorem y_narKL_ok {k : Nat} (h0 : k ≠ 0) {c lo hi m : Int} (hm : m = β k + c) (h1 : lo ≤ m) (h2 : m ≤ hi) (hL : y_gL W β L Ls) : y_gL W β (y_narKL k c lo hi L) Ls := by
  intro q hq
  obtain ⟨p, hp, rfl⟩ := List.mem_map.mp hq
  obtain ⟨x, hx, hg⟩ := hL p hp
  refine ⟨x, hx, ?_⟩
  dsimp only
  cases e1 : (Nat.beq p.2.1 0 && Nat.beq p.2.2.2.2.1 k)
  · cases e2 : (Nat.beq p.2.1 0 && (Nat.ble 200000 k && Nat.beq p.1 k))
    · exact hg
    · obtain ⟨ea, ec⟩ := (Bool.and_eq_true _ _).mp e2
      obtain ⟨ed, eb⟩ := (Bool.and_eq_true _ _).mp ec
      have eb := Nat.beq_eq.mp eb
      have ed := Nat.le_of_ble_eq_true ed
      obtain ⟨n, rfl, b1, b2, b3⟩ := y_isI_g ea hg
      obtain ⟨n', e', hn'⟩ := hx.2 (by rw [eb]; exact ed)
      cases e'
      rw [eb] at hn'
      exact ⟨n, rfl, s_max_le b1 (by omega), s_min_le b2 (by omega), b3⟩
  · obtain ⟨ea, eb⟩ := (Bool.and_eq_true _ _).mp e1
    have eb := Nat.beq_eq.mp eb
    obtain ⟨n, rfl, b1, b2, b3⟩ := y_isI_g ea hg
    have := b3.1 (by rw [eb]; exact h0)
    rw [eb] at this
    exact ⟨n, rfl, s_max_le b1 (by omega), s_min_le b2 (by omega), b3⟩
theorem y_rinf_ok {cd : ClassFile.Cond} {x y : y_Q} {m n : Int} (hx : y_rl β x m) (hy : y_rl β y n) (h : h_ci m n cd = true) : y_rinf (s_cdn cd) x y = false := by
  have ne0 : ∀ {k : Nat}, (!Nat.beq k 0) = true → k ≠ 0 := fun {k} e h0 => by rw [h0] at e; cases e
  cases e : y_rinf (s_cdn cd) x y
  · rfl
  · exfalso
    unfold y_rinf at e
    simp only [Bool.or_eq_true, Bool.and_eq_true, Nat.beq_eq] at e
    rcases e with ⟨h1, h2, h3⟩ | ⟨h1, h2, h3⟩ | ⟨h1, h2, h3⟩
    · have p1 := hx.1 (ne0 h1)
      have p2 := hy.1 (by rw [← h2]; exact ne0 h1)
      rw [← h2] at p2
      cases cd <;> simp only [h_ci, decide_eq_true_eq, s_cdn, y_cfl, Bool.not_eq_true', decide_eq_false_iff_not] at h h3 <;> omega
    · have p1 := hy.1 (ne0 h1)
      have p2 := hx.2 (by rw [h2]; exact ne0 h1)
      rw [h2] at p2
      cases cd <;> simp only [h_ci, decide_eq_true_eq, s_cdn, y_cfu] at h h3 <;> first | omega | (cases h3)
    · have p1 := hx.1 (ne0 h1)
      have p2 := hy.2 (by rw [h2]; exact ne0 h1)
      rw [h2] at p2
      cases cd <;> simp only [h_ci, decide_eq_true_eq, s_cdn, y_cfv] at h h3 <;> first | omega | (cases h3)
end Y1
