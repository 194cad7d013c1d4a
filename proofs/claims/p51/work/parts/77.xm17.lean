-- findWay of the model (made by wip/p24/xa/xm16.py)
set_option maxRecDepth 20000
/-- the axle of the one and of the other end of a mesh -/
abbrev xw_A (M : xa_M) (i : Int) : Int := M 64 (M 66 i)
abbrev xw_B (M : xa_M) (i : Int) : Int := M 64 (M 67 i)
/-- far, after so many rounds and meshes -/
def xw_I (M : xa_M) (X : Int) (M1 : xa_M) (r m : Int) : Prop := (∀ i, 0 ≤ i → i < M 60 6 → ((M1 78 (xw_B M i) < r ∨ (i < m ∧ M1 78 (xw_B M i) ≤ r)) → M1 78 (xw_A M i) ≤ M1 78 (xw_B M i) + 1) ∧ ((M1 78 (xw_A M i) < r ∨ (i < m ∧ M1 78 (xw_A M i) ≤ r)) → M1 78 (xw_B M i) ≤ M1 78 (xw_A M i) + 1)) ∧
  M1 78 X = 0 ∧ ∀ a, 0 ≤ a → a < 10 → a ≠ X → 1 ≤ M1 78 a ∧ (M1 78 a < 99 → ∃ i, (0 ≤ i ∧ i < M 60 6) ∧ ((xw_A M i = a ∧ M1 78 (xw_B M i) < M1 78 a) ∨ (xw_B M i = a ∧ M1 78 (xw_A M i) < M1 78 a)))
theorem xw_up (M : xa_M) (q : Nat) (i v j : Int) : xa_up M q i v q j = if j = i then v else M q j := by
  simp [xa_up]
theorem xw_st {M M1 : xa_M} {X i r m x y v : Int} (hi : 0 ≤ i ∧ i < M 60 6) (hxy : (xw_A M i = x ∧ xw_B M i = y) ∨ (xw_B M i = x ∧ xw_A M i = y)) (hv : v ≤ M1 78 x ∧ v ≤ M1 78 y + 1 ∧ (v = M1 78 x ∨ v = M1 78 y + 1)) (hy : 0 ≤ M1 78 y) (h : xw_I M X M1 r m) : xw_I M X (xa_up M1 78 x v) r m := by
  obtain ⟨hP, hX, hV⟩ := h
  by_cases ev : v = M1 78 x
  · have e : ∀ j, xa_up M1 78 x v 78 j = M1 78 j := by
      intro j
      rw [xw_up]
      split
      · rename_i e
        rw [e, ev]
      · rfl
    unfold xw_I
    simp only [e]
    exact ⟨hP, hX, hV⟩
  · have ev2 : v = M1 78 y + 1 := by omega
    have hr : r ≤ M1 78 y := by
      by_cases c : M1 78 y < r
      · have := hP i hi.1 hi.2
        rcases hxy with ⟨e1, e2⟩ | ⟨e1, e2⟩
        · rw [e1, e2] at this
          have := this.1 (Or.inl c)
          omega
        · rw [e1, e2] at this
          have := this.2 (Or.inl c)
          omega
      · omega
    have le : ∀ j, xa_up M1 78 x v 78 j ≤ M1 78 j := by
      intro j
      rw [xw_up]
      split
      · rename_i e
        rw [e]
        exact hv.1
      · exact Int.le_refl _
    have ne : ∀ j, j ≠ x → xa_up M1 78 x v 78 j = M1 78 j := fun j hj => by rw [xw_up, if_neg hj]
    have eq : xa_up M1 78 x v 78 x = v := by rw [xw_up, if_pos rfl]
    have hxy2 : y ≠ x := by
      intro e
      rw [e] at ev2 hv
      omega
    refine ⟨fun i2 j0 j1 => ?_, ?_, fun a a0 a1 ha => ?_⟩
    · obtain ⟨p1, p2⟩ := hP i2 j0 j1
      refine ⟨fun c => ?_, fun c => ?_⟩
      · by_cases e : xw_B M i2 = x
        · rw [e, eq] at c
          omega
        · rw [ne _ e] at c ⊢
          have := p1 c
          have := le (xw_A M i2)
          omega
      · by_cases e : xw_A M i2 = x
        · rw [e, eq] at c
          omega
        · rw [ne _ e] at c ⊢
          have := p2 c
          have := le (xw_B M i2)
          omega
    · by_cases e : X = x
      · rw [e] at hX
        omega
      · rw [ne _ e]
        exact hX
    · obtain ⟨v1, v2⟩ := hV a a0 a1 ha
      by_cases e : a = x
      · rw [e, eq]
        refine ⟨by omega, fun _ => ⟨i, hi, ?_⟩⟩
        rcases hxy with ⟨e1, e2⟩ | ⟨e1, e2⟩
        · exact Or.inl ⟨e1, by rw [e2, ne _ hxy2]; omega⟩
        · exact Or.inr ⟨e1, by rw [e2, ne _ hxy2]; omega⟩
      · rw [ne _ e]
        refine ⟨v1, fun c => ?_⟩
        obtain ⟨i2, j, hj⟩ := v2 c
        refine ⟨i2, j, ?_⟩
        rcases hj with ⟨e1, e2⟩ | ⟨e1, e2⟩
        · have := le (xw_B M i2)
          exact Or.inl ⟨e1, by omega⟩
        · have := le (xw_A M i2)
          exact Or.inr ⟨e1, by omega⟩
theorem xw_nx {M M1 : xa_M} {X r m : Int} (h : xw_I M X M1 r m) (h1 : M1 78 (xw_A M m) ≤ M1 78 (xw_B M m) + 1) (h2 : M1 78 (xw_B M m) ≤ M1 78 (xw_A M m) + 1) : xw_I M X M1 r (m + 1) := by
  refine ⟨fun i i0 i1 => ?_, h.2⟩
  obtain ⟨p1, p2⟩ := h.1 i i0 i1
  by_cases e : i = m
  · rw [e]
    exact ⟨fun _ => h1, fun _ => h2⟩
  · exact ⟨fun c => p1 (by omega), fun c => p2 (by omega)⟩
theorem xw_two {M M1 : xa_M} {X r m a b u v : Int} (h : xw_I M X M1 r m) (hi : 0 ≤ m ∧ m < M 60 6) (ea : xw_A M m = a) (eb : xw_B M m = b) (ha : 0 ≤ M1 78 a) (hb : 0 ≤ M1 78 b) (h1 : u ≤ M1 78 a ∧ u ≤ M1 78 b + 1 ∧ (u = M1 78 a ∨ u = M1 78 b + 1)) (h2 : v ≤ xa_up M1 78 a u 78 b ∧ v ≤ u + 1 ∧ (v = xa_up M1 78 a u 78 b ∨ v = u + 1)) : xw_I M X (xa_up (xa_up M1 78 a u) 78 b v) r (m + 1) := by
  have s1 := xw_st (M := M) (v := u) hi (Or.inl ⟨ea, eb⟩) h1 hb h
  have ua : xa_up M1 78 a u 78 a = u := by rw [xw_up, if_pos rfl]
  have s2 := xw_st (M := M) (v := v) hi (Or.inr ⟨eb, ea⟩) (by rw [ua]; exact h2) (by rw [ua]; omega) s1
  have vb : xa_up (xa_up M1 78 a u) 78 b v 78 b = v := by rw [xw_up, if_pos rfl]
  by_cases e : a = b
  · refine xw_nx s2 ?_ ?_
    · rw [ea, eb, e]
      omega
    · rw [ea, eb, e]
      omega
  · have va : xa_up (xa_up M1 78 a u) 78 b v 78 a = u := by rw [xw_up, if_neg e, ua]
    have ub : xa_up M1 78 a u 78 b = M1 78 b := by rw [xw_up, if_neg (fun h => e h.symm)]
    rw [ub] at h2
    refine xw_nx s2 ?_ ?_
    · rw [ea, eb, va, vb]
      omega
    · rw [ea, eb, va, vb]
      omega
theorem xw_rd {M M1 : xa_M} {X r m : Int} (h : xw_I M X M1 r m) (hm : M 60 6 ≤ m) : xw_I M X M1 (r + 1) 0 := by
  refine ⟨fun i i0 i1 => ?_, h.2⟩
  obtain ⟨p1, p2⟩ := h.1 i i0 i1
  exact ⟨fun c => p1 (by omega), fun c => p2 (by omega)⟩
/-- how many of the first n are at most v -/
def xw_C (f : Int → Int) (v : Int) : Nat → Int
  | 0 => 0
  | n + 1 => xw_C f v n + (if f n ≤ v then 1 else 0)
theorem xw_C_le {f : Int → Int} {v : Int} : ∀ n : Nat, xw_C f v n ≤ n := by
  intro n
  induction n with
  | zero => exact Int.le_refl 0
  | succ n ih =>
    show xw_C f v n + (if f n ≤ v then 1 else 0) ≤ ((n + 1 : Nat) : Int)
    split <;> omega
theorem xw_C_mn {f : Int → Int} {v : Int} : ∀ n : Nat, xw_C f v n ≤ xw_C f (v + 1) n := by
  intro n
  induction n with
  | zero => exact Int.le_refl 0
  | succ n ih =>
    show xw_C f v n + (if f n ≤ v then 1 else 0) ≤ xw_C f (v + 1) n + (if f n ≤ v + 1 then 1 else 0)
    split <;> split <;> omega
theorem xw_C_lt {f : Int → Int} {v : Int} {k : Int} (k0 : 0 ≤ k) (hk : f k = v + 1) : ∀ n : Nat, k < n → xw_C f v n + 1 ≤ xw_C f (v + 1) n := by
  intro n
  induction n with
  | zero => intro h; omega
  | succ n ih =>
    intro hn
    show xw_C f v n + (if f n ≤ v then 1 else 0) + 1 ≤ xw_C f (v + 1) n + (if f n ≤ v + 1 then 1 else 0)
    by_cases e : k = n
    · rw [e] at hk
      have := xw_C_mn (f := f) (v := v) n
      rw [if_neg (by omega), if_pos (by omega)]
      omega
    · have := ih (by omega)
      split <;> split <;> omega
theorem xw_C_big {f : Int → Int} : ∀ v : Nat, (∀ u : Int, 0 ≤ u → u ≤ v → ∃ a, 0 ≤ a ∧ a < 10 ∧ f a = u) → (v : Int) + 1 ≤ xw_C f v 10 := by
  have h0 : ∀ n : Nat, 0 ≤ xw_C f (-1) n := by
    intro n
    induction n with
    | zero => exact Int.le_refl 0
    | succ n ih =>
      show 0 ≤ xw_C f (-1) n + (if f n ≤ -1 then 1 else 0)
      split <;> omega
  intro v
  induction v with
  | zero =>
    intro h
    obtain ⟨a, a0, a1, e⟩ := h 0 (by omega) (by omega)
    have := xw_C_lt (f := f) (v := -1) a0 (by omega) 10 (by omega)
    have := h0 10
    exact (by omega : (0 : Int) + 1 ≤ xw_C f (-1 + 1) 10)
  | succ v ih =>
    intro h
    have i := ih (fun u u0 u1 => h u u0 (by omega))
    obtain ⟨a, a0, a1, e⟩ := h ((v : Int) + 1) (by omega) (by omega)
    have := xw_C_lt (f := f) (v := v) a0 e 10 (by omega)
    exact (by omega : ((v + 1 : Nat) : Int) + 1 ≤ xw_C f ((v : Int) + 1) 10)
/-- what the walk needs -/
def xw_G (M : xa_M) (X : Int) (M1 : xa_M) : Prop := M1 78 X = 0 ∧ (∀ a, 0 ≤ a → a < 10 → a ≠ X → 1 ≤ M1 78 a) ∧ ∀ a, 0 ≤ a → a < 10 → M1 78 a < 99 → M1 78 a ≤ 10 ∧ (a ≠ X → ∃ i, (0 ≤ i ∧ i < M 60 6) ∧ ((xw_A M i = a ∧ M1 78 (xw_B M i) = M1 78 a - 1) ∨ (xw_B M i = a ∧ M1 78 (xw_A M i) = M1 78 a - 1)))
theorem xw_G_u {M M1 : xa_M} {X j v : Int} {q : Nat} (hq : q ≠ 78) (h : xw_G M X M1) : xw_G M X (xa_up M1 q j v) := by
  have e : ∀ i, xa_up M1 q j v 78 i = M1 78 i := by
    intro i
    simp [xa_up, hq.symm]
  unfold xw_G
  simp only [e]
  exact h
theorem xw_G_j {M M1 M2 : xa_M} {X : Int} (e : ∀ j, M2 78 j = M1 78 j) (h : xw_G M X M1) : xw_G M X M2 := by
  unfold xw_G
  simp only [e]
  exact h
theorem xw_fin {M M1 : xa_M} {X : Int} (hX : 0 ≤ X ∧ X < 10) (hAB : ∀ i, 0 ≤ i → i < M 60 6 → (0 ≤ xw_A M i ∧ xw_A M i < 10) ∧ (0 ≤ xw_B M i ∧ xw_B M i < 10)) (h : xw_I M X M1 10 0) : xw_G M X M1 := by
  obtain ⟨hP, h0, hV⟩ := h
  -- a neighbour that is nearer
  have nb : ∀ a, 0 ≤ a → a < 10 → a ≠ X → M1 78 a < 99 → ∃ b, (0 ≤ b ∧ b < 10) ∧ M1 78 b < M1 78 a ∧ (M1 78 b < 10 → M1 78 a = M1 78 b + 1) ∧ ∃ i, (0 ≤ i ∧ i < M 60 6) ∧ ((xw_A M i = a ∧ xw_B M i = b) ∨ (xw_B M i = a ∧ xw_A M i = b)) := by
    intro a a0 a1 ha hl
    obtain ⟨i, hi, hj⟩ := (hV a a0 a1 ha).2 hl
    have ab := hAB i hi.1 hi.2
    obtain ⟨p1, p2⟩ := hP i hi.1 hi.2
    rcases hj with ⟨e1, e2⟩ | ⟨e1, e2⟩
    · refine ⟨xw_B M i, ab.2, e2, fun c => ?_, i, hi, Or.inl ⟨e1, rfl⟩⟩
      have := p1 (Or.inl c)
      rw [e1] at this
      omega
    · refine ⟨xw_A M i, ab.1, e2, fun c => ?_, i, hi, Or.inr ⟨e1, rfl⟩⟩
      have := p2 (Or.inl c)
      rw [e1] at this
      omega
  have z : ∀ a, 0 ≤ a → a < 10 → M1 78 a ≠ 0 → a ≠ X := by
    intro a _ _ h e
    rw [e] at h
    exact h h0
  -- the numbers below one that is met are met
  have down : ∀ v : Nat, v ≤ 10 → (∃ a, 0 ≤ a ∧ a < 10 ∧ M1 78 a = v) → ∀ u : Int, 0 ≤ u → u ≤ v → ∃ a, 0 ≤ a ∧ a < 10 ∧ M1 78 a = u := by
    intro v
    induction v with
    | zero =>
      intro _ ⟨a, a0, a1, e⟩ u u0 u1
      exact ⟨a, a0, a1, by omega⟩
    | succ v ih =>
      intro hv ⟨a, a0, a1, e⟩ u u0 u1
      by_cases eu : u = ((v + 1 : Nat) : Int)
      · exact ⟨a, a0, a1, by omega⟩
      · obtain ⟨b, hb, hlt, hb2, _⟩ := nb a a0 a1 (z a a0 a1 (by omega)) (by omega)
        exact ih (by omega) ⟨b, hb.1, hb.2, by have := hb2 (by omega); omega⟩ u u0 (by omega)
  have no : ∀ n : Nat, ∀ a, 0 ≤ a → a < 10 → M1 78 a < 99 → M1 78 a < n → ¬ 11 ≤ M1 78 a := by
    intro n
    induction n with
    | zero => intro a _ _ _ h h2; omega
    | succ n ih =>
      intro a a0 a1 hl hn h11
      obtain ⟨b, hb, hlt, hb2, _⟩ := nb a a0 a1 (z a a0 a1 (by omega)) hl
      by_cases c : M1 78 b < 10
      · have := hb2 c
        omega
      · by_cases c2 : 11 ≤ M1 78 b
        · exact ih b hb.1 hb.2 (by omega) (by omega) c2
        · have big := xw_C_big (f := M1 78) 10 (down 10 (by omega) ⟨b, hb.1, hb.2, by omega⟩)
          have := xw_C_le (f := M1 78) (v := ((10 : Nat) : Int)) 10
          omega
  refine ⟨h0, fun a a0 a1 ha => (hV a a0 a1 ha).1, fun a a0 a1 hl => ?_⟩
  have h10 : M1 78 a ≤ 10 := by
    have := no 99 a a0 a1 hl (by omega)
    omega
  refine ⟨h10, fun ha => ?_⟩
  obtain ⟨b, hb, hlt, hb2, i, hi, hj⟩ := nb a a0 a1 ha hl
  have e := hb2 (by omega)
  refine ⟨i, hi, ?_⟩
  rcases hj with ⟨e1, e2⟩ | ⟨e1, e2⟩
  · exact Or.inl ⟨e1, by rw [e2]; omega⟩
  · exact Or.inr ⟨e1, by rw [e2]; omega⟩
/-- a mesh from i on that leads nearer -/
def xw_E (M : xa_M) (x : Int) (M1 : xa_M) (i : Int) : Prop := ∃ m, (i ≤ m ∧ m < M 60 6) ∧ ((xw_A M m = x ∧ M1 78 (xw_B M m) = M1 78 x - 1) ∨ (xw_B M m = x ∧ M1 78 (xw_A M m) = M1 78 x - 1))
theorem xw_E_n {M M1 : xa_M} {x i : Int} (h : xw_E M x M1 i) (hn : ¬ ((xw_A M i = x ∧ M1 78 (xw_B M i) = M1 78 x - 1) ∨ (xw_B M i = x ∧ M1 78 (xw_A M i) = M1 78 x - 1))) : xw_E M x M1 (i + 1) := by
  obtain ⟨m, hm, h⟩ := h
  have : i ≠ m := by
    intro e
    rw [e] at hn
    exact hn h
  exact ⟨m, by omega, h⟩
theorem xw_E_i {M M1 : xa_M} {x i : Int} (h : xw_E M x M1 i) : i < M 60 6 := by
  obtain ⟨m, hm, h⟩ := h
  omega
theorem xw_ini {M M1 : xa_M} {X n : Int} (hM1 : xa_Mok xm_I M1) (hX : 0 ≤ X ∧ X ≤ 9) (hAB : ∀ i, 0 ≤ i → i < M 60 6 → (0 ≤ xw_A M i ∧ xw_A M i < 10) ∧ (0 ≤ xw_B M i ∧ xw_B M i < 10)) (hn : 10 ≤ n) (h : ∀ i, 0 ≤ i → i < n → M1 78 i = if i = X then 0 else 99) : xw_I M X M1 0 0 := by
  refine ⟨fun i i0 i1 => ?_, ?_, fun a a0 a1 ha => ?_⟩
  · obtain ⟨p, q⟩ := hAB i i0 i1
    have := xm_t78 hM1 (xw_A M i) p.1 p.2
    have := xm_t78 hM1 (xw_B M i) q.1 q.2
    exact ⟨fun c => by omega, fun c => by omega⟩
  · rw [h X hX.1 (by omega), if_pos rfl]
  · rw [h a a0 (by omega), if_neg ha]
    exact ⟨by omega, fun c => by omega⟩
