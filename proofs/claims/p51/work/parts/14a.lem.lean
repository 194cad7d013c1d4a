-- what the machine over bounds stands for: rows that the steps rest on
section S20
variable {σ σ' : Nat → Int} {ρ ρ' : Nat → Nat} {b : Nat}
theorem s_lk_put (l : List (Nat × s_V)) (k : Nat) (v d : s_V) (j : Nat) : s_lk (s_put l k v) j d = if j = k then v else s_lk l j d := by
  induction l with
  | nil =>
    simp only [s_put, s_lk, s_beq]
    by_cases h : j = k
    · subst h; simp
    · have e : (k == j) = false := by simpa using Ne.symm h
      simp [h, e]
  | cons q t ih =>
    obtain ⟨i, u⟩ := q
    simp only [s_put, s_beq]
    by_cases h : i = k
    · subst h
      simp only [beq_self_eq_true, cond_true, s_lk, s_beq]
      by_cases h2 : j = i
      · subst h2; simp
      · have e : (i == j) = false := by simpa using Ne.symm h2
        simp [h2, e]
    · have h1 : (i == k) = false := by simpa using h
      simp only [h1, cond_false, s_lk, s_beq, ih]
      by_cases h2 : i = j
      · subst h2; simp [h]
      · have h3 : (i == j) = false := by simpa using h2
        simp only [h3, cond_false]
theorem s_ch_get (H : List s_C) : ∀ (i q : Nat), g_get (s_ch σ ρ b i H) q = (H[q]?).map (fun c => (ρ (i + q), s_cc σ ρ b c)) := by
  induction H with
  | nil => intro i q; rfl
  | cons c t ih =>
    intro i q
    cases q with
    | zero => rfl
    | succ q =>
      have h := ih (i + 1) q
      show g_get (s_ch σ ρ b (i + 1) t) q = _
      rw [h, show i + 1 + q = i + (q + 1) by omega]
      rfl
theorem s_ch_set (H : List s_C) : ∀ (i q : Nat) (c : s_C), (s_ch σ ρ b i H).set q (ρ (i + q), s_cc σ ρ b c) = s_ch σ ρ b i (H.set q c) := by
  induction H with
  | nil => intro i q c; rfl
  | cons u t ih =>
    intro i q c
    cases q with
    | zero => rfl
    | succ q =>
      have h := ih (i + 1) q c
      rw [show i + 1 + q = i + (q + 1) by omega] at h
      show (ρ i, s_cc σ ρ b u) :: (s_ch σ ρ b (i + 1) t).set q _ = _
      rw [h]
      rfl
theorem s_ch_app (H : List s_C) : ∀ (i : Nat) (c : s_C), s_ch σ ρ b i (H ++ [c]) = s_ch σ ρ b i H ++ [(ρ (i + H.length), s_cc σ ρ b c)] := by
  induction H with
  | nil => intro i c; rfl
  | cons u t ih =>
    intro i c
    show (ρ i, s_cc σ ρ b u) :: s_ch σ ρ b (i + 1) (t ++ [c]) = _
    rw [ih (i + 1) c, show i + 1 + t.length = i + (t.length + 1) by omega]
    rfl
theorem s_wV_ag {nE nH : Nat} {v : s_V} (h : s_wV nE nH v = true) (hE : ∀ i, i < nE → σ' i = σ i) (hH : ∀ i, i < nH → ρ' i = ρ i) : s_cv σ' ρ' b v = s_cv σ ρ b v := by
  obtain ⟨t, n⟩ := v
  match t, h with
  | 0, _ => rfl
  | 1, _ => rfl
  | 2, h => simp only [s_cv]; rw [hE _ (by simpa [s_wV, Nat.blt_eq] using h)]
  | 3, h => simp only [s_cv]; rw [hE _ (by simpa [s_wV, Nat.blt_eq] using h)]
  | 4, _ => rfl
  | 5, h => simp only [s_cv]; rw [hH _ (by simpa [s_wV, Nat.blt_eq] using h)]
  | t + 6, _ => rfl
theorem s_wL_ag {nE nH : Nat} {L : s_L} (h : s_wL nE nH L = true) (hE : ∀ i, i < nE → σ' i = σ i) (hH : ∀ i, i < nH → ρ' i = ρ i) : s_cL σ' ρ' b L = s_cL σ ρ b L := by
  unfold s_cL
  apply List.map_congr_left
  intro q hq
  rw [s_wV_ag (List.all_eq_true.mp h q hq) hE hH]
theorem s_wS_ag {nE nH : Nat} {st : List s_V} (h : st.all (s_wV nE nH) = true) (hE : ∀ i, i < nE → σ' i = σ i) (hH : ∀ i, i < nH → ρ' i = ρ i) : st.map (s_cv σ' ρ' b) = st.map (s_cv σ ρ b) := by
  apply List.map_congr_left
  intro q hq
  rw [s_wV_ag (List.all_eq_true.mp h q hq) hE hH]
theorem s_lk_in (l : List (Nat × s_V)) (j : Nat) (d : s_V) : s_lk l j d = d ∨ ∃ q ∈ l, s_lk l j d = q.2 := by
  induction l with
  | nil => exact Or.inl rfl
  | cons q t ih =>
    obtain ⟨i, u⟩ := q
    simp only [s_lk]
    cases Nat.beq i j
    · simp only [cond_false]
      rcases ih with h | ⟨q, h1, h2⟩
      · exact Or.inl h
      · exact Or.inr ⟨q, List.mem_cons_of_mem _ h1, h2⟩
    · exact Or.inr ⟨(i, u), List.mem_cons_self, rfl⟩
theorem s_wC_ag {nE nH : Nat} {c : s_C} (h : (s_wV nE nH c.2.2.2.1 && s_wL nE nH c.2.2.2.2) = true) (hE : ∀ i, i < nE → σ' i = σ i) (hH : ∀ i, i < nH → ρ' i = ρ i) : s_cc σ' ρ' b c = s_cc σ ρ b c := by
  rw [Bool.and_eq_true] at h
  unfold s_cc
  congr 3
  funext j
  rcases s_lk_in c.2.2.2.2 j c.2.2.2.1 with h1 | ⟨q, h1, h2⟩
  · rw [h1]; exact s_wV_ag h.1 hE hH
  · rw [h2]; exact s_wV_ag (List.all_eq_true.mp h.2 q h1) hE hH
theorem s_ch_ag {nE nH : Nat} (H : List s_C) : ∀ (i : Nat), (H.all (fun c => s_wV nE nH c.2.2.2.1 && s_wL nE nH c.2.2.2.2)) = true → i + H.length ≤ nH → (∀ i, i < nE → σ' i = σ i) → (∀ i, i < nH → ρ' i = ρ i) → s_ch σ' ρ' b i H = s_ch σ ρ b i H := by
  induction H with
  | nil => intro i _ _ _ _; rfl
  | cons c t ih =>
    intro i h hl hE hH
    rw [List.all_cons, Bool.and_eq_true] at h
    have hl' : i + (t.length + 1) ≤ nH := hl
    show (ρ' i, s_cc σ' ρ' b c) :: s_ch σ' ρ' b (i + 1) t = (ρ i, s_cc σ ρ b c) :: s_ch σ ρ b (i + 1) t
    rw [ih (i + 1) h.2 (by omega) hE hH, s_wC_ag h.1 hE hH, hH i (by omega)]
theorem s_cat (v : s_V) : (s_cv σ ρ b v).category = if s_c2 v = true then 2 else 1 := by
  obtain ⟨t, n⟩ := v
  match t with
  | 0 => rfl
  | 1 => rfl
  | 2 => rfl
  | 3 => rfl
  | 4 => rfl
  | 5 => rfl
  | t + 6 => simp [s_cv, s_c2, Value.category, s_beq]
theorem s_cat2 (v : s_V) : ((s_cv σ ρ b v).category == 2) = s_c2 v := by
  rw [s_cat]
  cases s_c2 v <;> rfl
theorem s_tk_0 {v : s_V} (h : s_tk 0 v = true) : ∃ x, s_cv σ ρ b v = .int x := by
  obtain ⟨t, n⟩ := v
  match t, h with
  | 0, _ => exact ⟨_, rfl⟩
  | 2, _ => exact ⟨_, rfl⟩
theorem s_tk_1 {v : s_V} (h : s_tk 1 v = true) : ∃ x, s_cv σ ρ b v = .long x := by
  obtain ⟨t, n⟩ := v
  match t, h with
  | 1, _ => exact ⟨_, rfl⟩
  | 3, _ => exact ⟨_, rfl⟩
theorem s_tk_3 {v : s_V} (h : s_tk 3 v = true) : ∃ x, s_cv σ ρ b v = .ref x := by
  obtain ⟨t, n⟩ := v
  match t, h with
  | 5, _ => exact ⟨_, rfl⟩
  | t + 6, _ => exact ⟨_, rfl⟩
theorem s_tk_2 {v : s_V} (h : s_tk 2 v = true) : s_cv σ ρ b v = .null ∨ ∃ x, s_cv σ ρ b v = .ref x := by
  obtain ⟨t, n⟩ := v
  match t, h with
  | 4, _ => exact Or.inl rfl
  | 5, _ => exact Or.inr ⟨_, rfl⟩
  | t + 6, _ => exact Or.inr ⟨_, rfl⟩
theorem s_tk_4 {v : s_V} (h : s_tk 4 v = true) : s_cv σ ρ b v = .null ∨ ∃ x, s_cv σ ρ b v = .ref x := by
  obtain ⟨t, n⟩ := v
  match t, h with
  | 4, _ => exact Or.inl rfl
  | 5, _ => exact Or.inr ⟨_, rfl⟩
theorem s_find_in {L : s_L} {i : Nat} {v : s_V} (h : s_find L i = some v) : (i, s_cv σ ρ b v) ∈ s_cL σ ρ b L := by
  induction L with
  | nil => cases h
  | cons q t ih =>
    obtain ⟨j, u⟩ := q
    simp only [s_find] at h
    by_cases e : j = i
    · subst e
      rw [s_beq, beq_self_eq_true, cond_true] at h
      cases h
      exact List.mem_cons_self
    · have e1 : Nat.beq j i = false := by rw [s_beq]; simpa using e
      rw [e1, cond_false] at h
      exact List.mem_cons_of_mem _ (ih h)
theorem s_st1_eq (i : Nat) (v : s_V) (L : s_L) : s_cL σ ρ b ((i, v) :: L.filter (fun q => !(q.1 == i) && !(q.1 + 1 == i && s_c2 q.2))) = g_st1 i (s_cv σ ρ b v) (s_cL σ ρ b L) := by
  unfold s_cL g_st1
  rw [List.map_cons, List.filter_map]
  congr 2
  apply List.filter_congr
  intro q _
  simp only [Function.comp, s_cat2]
theorem s_st2_eq (i : Nat) (v : s_V) (L : s_L) : s_cL σ ρ b ((i, v) :: L.filter (fun q => !(q.1 == i) && (!(q.1 == i + 1) && !(q.1 + 1 == i && s_c2 q.2)))) = g_st2 i (s_cv σ ρ b v) (s_cL σ ρ b L) := by
  unfold s_cL g_st2
  rw [List.map_cons, List.filter_map]
  congr 2
  apply List.filter_congr
  intro q _
  simp only [Function.comp, s_cat2]
theorem s_sum_eq (st : List s_V) : g_sum (st.map (s_cv σ ρ b)) = s_sum st := by
  induction st with
  | nil => rfl
  | cons v t ih =>
    show (s_cv σ ρ b v).category + g_sum (t.map (s_cv σ ρ b)) = _
    rw [ih, s_cat]
    simp only [s_sum]
    cases s_c2 v <;> rfl
theorem s_iz (x : Int32) : Int32.ofInt x.toInt = x := Int32.ofInt_toInt x
theorem s_lz (x : Int64) : Int64.ofInt x.toInt = x := Int64.ofInt_toInt x
theorem s_to32 {n : Int} (h : s_in32 n = true) : (Int32.ofInt n).toInt = n := by
  simp only [s_in32, Bool.and_eq_true, decide_eq_true_eq] at h
  exact Int32.toInt_ofInt_of_le (by omega) (by omega)
theorem s_to64 {n : Int} (h : s_in64 n = true) : (Int64.ofInt n).toInt = n := by
  simp only [s_in64, Bool.and_eq_true, decide_eq_true_eq] at h
  exact Int64.toInt_ofInt_of_le (by omega) (by omega)
end S20
section S21
variable {xs : Nat → Int} {σ : Nat → Int} {ρ : Nat → Nat} {b : Nat} {M : s_M}
theorem s_kE_eq (hok : s_ok xs σ M) {k : Nat} {n : Int} (h : s_kE M.1 k = some n) : σ k = n := by
  unfold s_kE at h
  split at h
  next r e =>
    have h1 := hok.1 _ _ e
    by_cases e2 : r.1 = r.2
    · simp only [e2, decide_true, cond_true, Option.some.injEq] at h
      omega
    · simp only [e2, decide_false, cond_false, reduceCtorEq] at h
  next => cases h
theorem s_k_eq (hok : s_ok xs σ M) {v : s_V} {n : Int} (h : s_k M.1 v = some n) : s_cv σ ρ b v = .int (Int32.ofInt n) := by
  obtain ⟨t, m⟩ := v
  unfold s_k at h
  match t, h with
  | 0, h => cases h; rfl
  | 1, h => cases h
  | 2, h => simp only [s_cv]; rw [s_kE_eq hok h]
  | t + 3, h => simp [s_beq] at h
theorem s_kl_eq (hok : s_ok xs σ M) {v : s_V} {n : Int} (h : s_kl M.1 v = some n) : s_cv σ ρ b v = .long (Int64.ofInt n) := by
  obtain ⟨t, m⟩ := v
  unfold s_kl at h
  match t, h with
  | 0, h => cases h
  | 1, h => cases h; rfl
  | 2, h => cases h
  | 3, h => simp only [s_cv]; rw [s_kE_eq hok h]
  | t + 4, h => simp [s_beq] at h
/-- a value with bounds -/
theorem s_iv_eq (hok : s_ok xs σ M) {v : s_V} {r : Int × Int} (h : s_iv M.1 v = some r) : ∃ x : Int32, s_cv σ ρ b v = .int x ∧ r.1 ≤ x.toInt ∧ x.toInt ≤ r.2 ∧ (v.1 = 2 → σ v.2.toNat = x.toInt) ∧ (v.1 = 0 ∨ v.1 = 2) := by
  obtain ⟨t, m⟩ := v
  unfold s_iv at h
  match t, h with
  | 0, h =>
    simp only at h
    cases e : s_in32 m
    · rw [e] at h; cases h
    · rw [e] at h
      cases h
      exact ⟨_, rfl, by rw [s_to32 e]; omega, by rw [s_to32 e]; omega, (fun h => by cases h), Or.inl rfl⟩
  | 2, h =>
    simp only at h
    split at h
    next r' e =>
      cases e2 : (s_in32 r'.1 && s_in32 r'.2)
      · rw [e2] at h; cases h
      · rw [e2] at h
        cases h
        have h1 := hok.1 _ _ e
        rw [Bool.and_eq_true] at e2
        have h2 : s_in32 (σ m.toNat) = true := by
          simp only [s_in32, Bool.and_eq_true, decide_eq_true_eq] at e2 ⊢
          omega
        exact ⟨_, rfl, by rw [s_to32 h2]; exact h1.1, by rw [s_to32 h2]; exact h1.2, fun _ => (s_to32 h2).symm, Or.inr rfl⟩
    next => cases h
theorem s_ivl_eq (hok : s_ok xs σ M) {v : s_V} {r : Int × Int} (h : s_ivl M.1 v = some r) : ∃ x : Int64, s_cv σ ρ b v = .long x ∧ r.1 ≤ x.toInt ∧ x.toInt ≤ r.2 ∧ (v.1 = 3 → σ v.2.toNat = x.toInt) ∧ (v.1 = 1 ∨ v.1 = 3) := by
  obtain ⟨t, m⟩ := v
  unfold s_ivl at h
  match t, h with
  | 1, h =>
    simp only at h
    cases e : s_in64 m
    · rw [e] at h; cases h
    · rw [e] at h
      cases h
      exact ⟨_, rfl, by rw [s_to64 e]; omega, by rw [s_to64 e]; omega, (fun h => by cases h), Or.inl rfl⟩
  | 3, h =>
    simp only at h
    split at h
    next r' e =>
      cases e2 : (s_in64 r'.1 && s_in64 r'.2)
      · rw [e2] at h; cases h
      · rw [e2] at h
        cases h
        have h1 := hok.1 _ _ e
        rw [Bool.and_eq_true] at e2
        have h2 : s_in64 (σ m.toNat) = true := by
          simp only [s_in64, Bool.and_eq_true, decide_eq_true_eq] at e2 ⊢
          omega
        exact ⟨_, rfl, by rw [s_to64 h2]; exact h1.1, by rw [s_to64 h2]; exact h1.2, fun _ => (s_to64 h2).symm, Or.inr rfl⟩
    next => cases h
/-- comparing: x, y the numbers; of variables they are σ's -/
theorem s_lt_eq (hR : ∀ q ∈ M.2.1, σ q.1 + q.2.2 ≤ σ q.2.1) {ia ib : Int × Int} {a c : s_V} {x y : Int} (ha : ia.1 ≤ x ∧ x ≤ ia.2) (hb : ib.1 ≤ y ∧ y ≤ ib.2) (hx : s_isv a = true → σ a.2.toNat = x) (hy : s_isv c = true → σ c.2.toNat = y) :
    (s_lt M.2.1 ia ib a c = 1 → x < y) ∧ (s_lt M.2.1 ia ib a c = 0 → ¬ x < y) := by
  unfold s_lt
  by_cases h1 : ia.2 < ib.1
  · simp only [h1, decide_true, cond_true]
    exact ⟨fun _ => by omega, (fun h => by cases h)⟩
  · simp only [h1, decide_false, cond_false]
    by_cases h2 : ib.2 ≤ ia.1
    · simp only [h2, decide_true, cond_true]
      exact ⟨(fun h => by cases h), fun _ => by omega⟩
    · simp only [h2, decide_false, cond_false]
      cases h3 : s_isv a && s_isv c
      · simp only [cond_false]
        exact ⟨(fun h => by cases h), (fun h => by cases h)⟩
      · simp only [cond_true]
        rw [Bool.and_eq_true] at h3
        have hx' := hx h3.1
        have hy' := hy h3.2
        cases h4 : M.2.1.any (fun q => Nat.beq q.1 a.2.toNat && (Nat.beq q.2.1 c.2.toNat && decide (1 ≤ q.2.2)))
        · simp only [cond_false]
          cases h5 : M.2.1.any (fun q => Nat.beq q.1 c.2.toNat && (Nat.beq q.2.1 a.2.toNat && decide (0 ≤ q.2.2)))
          · simp only [cond_false]
            exact ⟨(fun h => by cases h), (fun h => by cases h)⟩
          · simp only [cond_true]
            refine ⟨(fun h => by cases h), fun _ => ?_⟩
            obtain ⟨q, hq, e⟩ := List.any_eq_true.mp h5
            simp only [Bool.and_eq_true, decide_eq_true_eq, Nat.beq_eq] at e
            have := hR q hq
            rw [e.1, e.2.1] at this
            omega
        · simp only [cond_true]
          refine ⟨fun _ => ?_, (fun h => by cases h)⟩
          obtain ⟨q, hq, e⟩ := List.any_eq_true.mp h4
          simp only [Bool.and_eq_true, decide_eq_true_eq, Nat.beq_eq] at e
          have := hR q hq
          rw [e.1, e.2.1] at this
          omega
theorem s_eq_eq {ia ib : Int × Int} {a c : s_V} {x y : Int} (ha : ia.1 ≤ x ∧ x ≤ ia.2) (hb : ib.1 ≤ y ∧ y ≤ ib.2) (hx : s_isv a = true → σ a.2.toNat = x) (hy : s_isv c = true → σ c.2.toNat = y) :
    (s_eq ia ib a c = 1 → x = y) ∧ (s_eq ia ib a c = 0 → ¬ x = y) := by
  unfold s_eq
  by_cases h1 : ia.2 < ib.1 ∨ ib.2 < ia.1
  · have : (decide (ia.2 < ib.1) || decide (ib.2 < ia.1)) = true := by simpa using h1
    simp only [this, cond_true]
    exact ⟨(fun h => by cases h), fun _ => by omega⟩
  · have : (decide (ia.2 < ib.1) || decide (ib.2 < ia.1)) = false := by simpa using h1
    simp only [this, cond_false]
    by_cases h2 : ia.1 = ia.2 ∧ ib.1 = ib.2
    · have : (decide (ia.1 = ia.2) && decide (ib.1 = ib.2)) = true := by simpa using h2
      simp only [this, cond_true]
      by_cases h3 : ia.1 = ib.1
      · simp only [h3, decide_true, cond_true]
        exact ⟨fun _ => by omega, (fun h => by cases h)⟩
      · simp only [h3, decide_false, cond_false]
        exact ⟨(fun h => by cases h), fun _ => by omega⟩
    · have : (decide (ia.1 = ia.2) && decide (ib.1 = ib.2)) = false := by
        cases e : (decide (ia.1 = ia.2) && decide (ib.1 = ib.2))
        · rfl
        · exact absurd (by simpa using e) h2
      simp only [this, cond_false]
      cases h4 : s_isv a && s_isv c && Nat.beq a.2.toNat c.2.toNat
      · simp only [cond_false]
        exact ⟨(fun h => by cases h), (fun h => by cases h)⟩
      · simp only [cond_true]
        simp only [Bool.and_eq_true, Nat.beq_eq] at h4
        refine ⟨fun _ => ?_, (fun h => by cases h)⟩
        rw [← hx h4.1.1, ← hy h4.1.2, h4.2]
theorem s_not_eq {k : Nat} : (s_not k = 1 → k = 0) ∧ (s_not k = 0 → k = 1) := by
  match k with
  | 0 => exact ⟨fun _ => rfl, (fun h => by cases h)⟩
  | 1 => exact ⟨(fun h => by cases h), fun _ => rfl⟩
  | k + 2 => exact ⟨(fun h => by cases h), (fun h => by cases h)⟩
theorem s_cond_eq (hR : ∀ q ∈ M.2.1, σ q.1 + q.2.2 ≤ σ q.2.1) {ia ib : Int × Int} {a c : s_V} {x y : Int32} (cd : ClassFile.Cond) (ha : ia.1 ≤ x.toInt ∧ x.toInt ≤ ia.2) (hb : ib.1 ≤ y.toInt ∧ y.toInt ≤ ib.2) (hx : s_isv a = true → σ a.2.toNat = x.toInt) (hy : s_isv c = true → σ c.2.toNat = y.toInt) :
    (s_cond M.2.1 ia ib a c (s_cdn cd) = 1 → g_c2 x y cd = true) ∧ (s_cond M.2.1 ia ib a c (s_cdn cd) = 0 → g_c2 x y cd = false) := by
  have e1 := s_eq_eq ha hb hx hy
  have l1 := s_lt_eq hR ha hb hx hy
  have l2 := s_lt_eq hR hb ha hy hx
  cases cd <;> simp only [s_cond, s_cdn, g_c2, decide_eq_true_eq, decide_eq_false_iff_not] <;> simp only [Nat.blt, Nat.ble, Nat.beq, cond_true, cond_false]
  · exact ⟨fun h => Int32.toInt_inj.mp (e1.1 h), fun h h2 => e1.2 h (by rw [h2])⟩
  · exact ⟨fun h h2 => e1.2 (s_not_eq.1 h) (by rw [h2]), fun h h2 => h2 (Int32.toInt_inj.mp (e1.1 (s_not_eq.2 h)))⟩
  · exact ⟨fun h => Int32.lt_iff_toInt_lt.mpr (l1.1 h), fun h h2 => l1.2 h (Int32.lt_iff_toInt_lt.mp h2)⟩
  · exact ⟨fun h => Int32.le_iff_toInt_le.mpr (by have := l1.2 (s_not_eq.1 h); omega), fun h h2 => by have := l1.1 (s_not_eq.2 h); have := Int32.le_iff_toInt_le.mp h2; omega⟩
  · exact ⟨fun h => Int32.lt_iff_toInt_lt.mpr (l2.1 h), fun h h2 => l2.2 h (Int32.lt_iff_toInt_lt.mp h2)⟩
  · exact ⟨fun h => Int32.le_iff_toInt_le.mpr (by have := l2.2 (s_not_eq.1 h); omega), fun h h2 => by have := l2.1 (s_not_eq.2 h); have := Int32.le_iff_toInt_le.mp h2; omega⟩
theorem s_c1_c2 (x : Int32) (cd : ClassFile.Cond) : g_c1 x cd = g_c2 x 0 cd := by cases cd <;> rfl
end S21
