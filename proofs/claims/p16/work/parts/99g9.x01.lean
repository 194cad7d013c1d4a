-- how far each axle is from one (way, p15)
set_option maxRecDepth 20000
/-- F tells how many meshes each axle is from X (99 or more: none lead there); A, B: the axles of the m meshes -/
def wy_L (m : Int) (A B F : Int → Int) (X : Int) : Prop := (F X = 0 ∧ (∀ a, 0 ≤ a → a < 10 → a ≠ X → 1 ≤ F a) ∧ ∀ a, 0 ≤ a → a < 10 → F a < 99 → F a ≤ 10 ∧ (a ≠ X → ∃ i, (0 ≤ i ∧ i < m) ∧ ((A i = a ∧ F (B i) = F a - 1) ∨ (B i = a ∧ F (A i) = F a - 1)))) ∧ ∀ i, 0 ≤ i → i < m → (F (B i) < 10 → F (A i) ≤ F (B i) + 1) ∧ (F (A i) < 10 → F (B i) ≤ F (A i) + 1)
/-- what C tells up to n is what F tells -/
def wy_K (F C : Int → Int) (n : Int) : Prop := ∀ a, 0 ≤ a → a < 10 → (C a = -1 ∨ (0 ≤ C a ∧ C a ≤ n)) ∧ ∀ k, 0 ≤ k → k ≤ n → (C a = k ↔ F a = k)
/-- within a round -/
def wy_B (F C : Int → Int) (n : Int) : Prop := ∀ a, 0 ≤ a → a < 10 → (C a = -1 ∨ (0 ≤ C a ∧ C a ≤ n + 1)) ∧ (∀ k, 0 ≤ k → k ≤ n → (C a = k ↔ F a = k)) ∧ (C a = n + 1 → F a = n + 1)
/-- the first m meshes are done -/
def wy_D (A B F C : Int → Int) (n m : Int) : Prop := ∀ i, 0 ≤ i → i < m → (F (A i) = n → F (B i) = n + 1 → C (B i) = n + 1) ∧ (F (B i) = n → F (A i) = n + 1 → C (A i) = n + 1)
theorem wy_0 {F C : Int → Int} {X : Int} (h0 : ∀ a, 0 ≤ a → a < 10 → 0 ≤ F a) (hX : F X = 0) (h1 : ∀ a, 0 ≤ a → a < 10 → a ≠ X → 1 ≤ F a) (hC : ∀ a, 0 ≤ a → a < 10 → C a = if a = X then 0 else -1) : wy_K F C 0 := by
  intro a a0 a1
  have e := hC a a0 a1
  by_cases c : a = X
  · rw [if_pos c] at e
    refine ⟨Or.inr ⟨by omega, by omega⟩, fun k k0 k1 => ?_⟩
    rw [e, c, hX]
  · rw [if_neg c] at e
    have := h1 a a0 a1 c
    refine ⟨Or.inl e, fun k k0 k1 => ?_⟩
    constructor <;> intro h <;> omega
theorem wy_in {F C : Int → Int} {n : Int} (hn : 0 ≤ n) (h : wy_K F C n) : wy_B F C n := by
  intro a a0 a1
  obtain ⟨h1, h2⟩ := h a a0 a1
  refine ⟨?_, h2, fun h => ?_⟩
  · rcases h1 with h1 | h1
    · exact Or.inl h1
    · exact Or.inr ⟨h1.1, by omega⟩
  · rcases h1 with h1 | h1 <;> omega
/-- one spread -/
theorem wy_sp {F C C' : Int → Int} {n x y : Int} (h : wy_B F C n) (hn : 0 ≤ n) (hx : 0 ≤ x ∧ x < 10) (hy : 0 ≤ y ∧ y < 10) (h0 : 0 ≤ F y) (he : F x = n → F y ≤ n + 1) (hC : (C x = n ∧ C y = -1 ∧ ∀ a, C' a = if a = y then n + 1 else C a) ∨ (¬ (C x = n ∧ C y = -1) ∧ ∀ a, C' a = C a)) : wy_B F C' n ∧ (F x = n → F y = n + 1 → C' y = n + 1) ∧ ∀ z, C z = n + 1 → C' z = n + 1 := by
  obtain ⟨-, x2, -⟩ := h x hx.1 hx.2
  obtain ⟨y1, y2, y3⟩ := h y hy.1 hy.2
  have ex := x2 n hn (Int.le_refl _)
  rcases hC with ⟨c1, c2, e⟩ | ⟨c1, e⟩
  · have fx := ex.mp c1
    have fy : F y = n + 1 := by
      have h1 := he fx
      by_cases c : F y ≤ n
      · have := (y2 (F y) h0 c).mpr rfl
        omega
      · omega
    have ey : C' y = n + 1 := by rw [e, if_pos rfl]
    refine ⟨fun a a0 a1 => ?_, fun _ _ => ey, fun z hz => ?_⟩
    · by_cases c : a = y
      · rw [c, ey]
        refine ⟨Or.inr ⟨by omega, by omega⟩, fun k k0 k1 => ?_, fun _ => fy⟩
        constructor <;> intro h <;> omega
      · rw [e a, if_neg c]
        exact h a a0 a1
    · rw [e z]
      split
      · rfl
      · exact hz
  · refine ⟨fun a a0 a1 => by rw [e a]; exact h a a0 a1, fun g1 g2 => ?_, fun z hz => by rw [e z]; exact hz⟩
    have cx := ex.mpr g1
    rw [e y]
    rcases y1 with y1 | y1
    · exact absurd ⟨cx, y1⟩ c1
    · by_cases c : C y ≤ n
      · have := (y2 (C y) y1.1 c).mp rfl
        omega
      · omega
/-- a mesh is done -/
theorem wy_nx {A B F C C1 C2 : Int → Int} {n m : Int} (h : wy_D A B F C n m) (h1 : ∀ z, C z = n + 1 → C1 z = n + 1) (h2 : ∀ z, C1 z = n + 1 → C2 z = n + 1) (g1 : F (A m) = n → F (B m) = n + 1 → C1 (B m) = n + 1) (g2 : F (B m) = n → F (A m) = n + 1 → C2 (A m) = n + 1) : wy_D A B F C2 n (m + 1) := by
  intro i i0 i1
  by_cases e : i = m
  · subst e
    exact ⟨fun a b => h2 _ (g1 a b), g2⟩
  · obtain ⟨d1, d2⟩ := h i i0 (by omega)
    exact ⟨fun a b => h2 _ (h1 _ (d1 a b)), fun a b => h2 _ (h1 _ (d2 a b))⟩
/-- a round is done -/
theorem wy_rd {A B F C : Int → Int} {n m X : Int} (hL : wy_L m A B F X) (hn : 0 ≤ n ∧ n < 10) (h : wy_B F C n) (hD : wy_D A B F C n m) : wy_K F C (n + 1) := by
  intro a a0 a1
  obtain ⟨h1, h2, h3⟩ := h a a0 a1
  refine ⟨h1, fun k k0 k1 => ?_⟩
  by_cases c : k ≤ n
  · exact h2 k k0 c
  · obtain rfl : k = n + 1 := by omega
    refine ⟨h3, fun hF => ?_⟩
    have hX : a ≠ X := fun e => by
      rw [e, hL.1.1] at hF
      omega
    obtain ⟨i, ⟨i0, i1⟩, hi⟩ := (hL.1.2.2 a a0 a1 (by omega)).2 hX
    obtain ⟨d1, d2⟩ := hD i i0 i1
    rcases hi with ⟨rfl, hi⟩ | ⟨rfl, hi⟩
    · exact d2 (by omega) (by omega)
    · exact d1 (by omega) (by omega)
/-- what the class finds after ten rounds -/
theorem wy_end {F C : Int → Int} {a : Int} (h : wy_K F C 10) (a0 : 0 ≤ a) (a1 : a < 10) (hF : 0 ≤ F a) (h9 : F a < 99 → F a ≤ 10) : (F a < 99 → C a = F a) ∧ (99 ≤ F a → C a = -1) := by
  obtain ⟨h1, h2⟩ := h a a0 a1
  refine ⟨fun hf => (h2 (F a) hF (h9 hf)).mpr rfl, fun hf => ?_⟩
  rcases h1 with h1 | h1
  · exact h1
  · have := (h2 (C a) h1.1 h1.2).mp rfl
    omega
/-- a mesh leads nearer: from the axle h, l meshes away -/
def wp_c (Ax One Oth C : Int → Int) (h l i : Int) : Prop := (Ax (One i) = h ∧ C (Ax (Oth i)) = l - 1) ∨ (Ax (Oth i) = h ∧ C (Ax (One i)) = l - 1)
/-- a step of the way: the first mesh that leads nearer, the wheel that drives, the one driven -/
def wp_S (n : Int) (Ax One Oth F : Int → Int) (h l p dr dn : Int) : Prop := (0 ≤ p ∧ p < n) ∧ wp_c Ax One Oth F h l p ∧ (∀ i, 0 ≤ i → i < p → ¬ wp_c Ax One Oth F h l i) ∧ ((Ax (One p) = h ∧ dr = One p ∧ dn = Oth p) ∨ (¬ Ax (One p) = h ∧ dr = Oth p ∧ dn = One p))
/-- where the way stands ahead of its step k -/
def wp_h (Ax Dn : Int → Int) (k : Int) : Int := if k ≤ 0 then 0 else Ax (Dn (k - 1))
theorem wp_h0 {Ax Dn : Int → Int} {k : Int} (h : k ≤ 0) : wp_h Ax Dn k = 0 := if_pos h
theorem wp_hs {Ax Dn : Int → Int} {k : Int} (h : ¬ k ≤ 0) : wp_h Ax Dn k = Ax (Dn (k - 1)) := if_neg h
/-- the first e steps of the way of L meshes -/
def wp_Q (n : Int) (Ax One Oth F : Int → Int) (L : Int) (P Dr Dn : Int → Int) (e : Int) : Prop := ∀ k, 0 ≤ k → k < e → wp_S n Ax One Oth F (wp_h Ax Dn k) (L - k) (P k) (Dr k) (Dn k)
theorem wp_Qe {n L e e' : Int} {Ax One Oth F P Dr Dn : Int → Int} (he : e' = e) (h : wp_Q n Ax One Oth F L P Dr Dn e') : wp_Q n Ax One Oth F L P Dr Dn e := he ▸ h
theorem wp_Qs {n L e p dr dn : Int} {Ax One Oth F P Dr Dn P' Dr' Dn' : Int → Int} (h : wp_Q n Ax One Oth F L P Dr Dn e) (he : 0 ≤ e) (hf : ∀ j, ¬ j = e → P' j = P j ∧ Dr' j = Dr j ∧ Dn' j = Dn j) (h1 : P' e = p) (h2 : Dr' e = dr) (h3 : Dn' e = dn) (hs : wp_S n Ax One Oth F (wp_h Ax Dn e) (L - e) p dr dn) : wp_Q n Ax One Oth F L P' Dr' Dn' (e + 1) := by
  have eh : ∀ k, k ≤ e → wp_h Ax Dn' k = wp_h Ax Dn k := fun k hk => by
    unfold wp_h
    by_cases c : k ≤ 0
    · rw [if_pos c, if_pos c]
    · rw [if_neg c, if_neg c, (hf (k - 1) (by omega)).2.2]
  intro k k0 k1
  by_cases c : k = e
  · rw [c, h1, h2, h3, eh e (Int.le_refl _)]
    exact hs
  · obtain ⟨g1, g2, g3⟩ := hf k c
    rw [g1, g2, g3, eh k (by omega)]
    exact h k k0 (by omega)
theorem wp_find {n X he lf : Int} {Ax One Oth F C : Int → Int} (hL : wy_L n (fun i => Ax (One i)) (fun i => Ax (Oth i)) F X) (hX : 0 ≤ X ∧ X < 10) (hr : ∀ k, 0 ≤ k → k < n → (0 ≤ One k ∧ One k < 14) ∧ (0 ≤ Oth k ∧ Oth k < 14)) (ha : ∀ w, 0 ≤ w → w < 14 → 0 ≤ Ax w ∧ Ax w < 10) (hlf : F he = lf) (_h9 : 0 < F 0) (hh : (0 ≤ he ∧ he < 10) ∧ 1 ≤ lf ∧ lf ≤ 10) (_hC : ∀ i, 0 ≤ i → i < n → (wp_c Ax One Oth C he lf i ↔ wp_c Ax One Oth F he lf i)) : ∃ i, 0 ≤ i ∧ i < n ∧ wp_c Ax One Oth F he lf i := by
  have hne : he ≠ X := fun e => by
    have := hL.1.1
    rw [e] at hlf
    omega
  obtain ⟨i, ⟨i0, i1⟩, hi⟩ := (hL.1.2.2 he hh.1.1 hh.1.2 (by omega)).2 hne
  refine ⟨i, i0, i1, ?_⟩
  rw [hlf] at hi
  exact hi
/-- a step is one -/
theorem wp_S_one {n h l p dr dn p' dr' dn' : Int} {Ax One Oth F : Int → Int} (h1 : wp_S n Ax One Oth F h l p dr dn) (h2 : wp_S n Ax One Oth F h l p' dr' dn') : p = p' ∧ dr = dr' ∧ dn = dn' := by
  obtain ⟨a1, a2, a3, a4⟩ := h1
  obtain ⟨b1, b2, b3, b4⟩ := h2
  have e : p = p' := by
    rcases Int.lt_trichotomy p p' with c | c | c
    · exact absurd a2 (b3 p a1.1 c)
    · exact c
    · exact absurd b2 (a3 p' b1.1 c)
  subst e
  refine ⟨rfl, ?_, ?_⟩
  · rcases a4 with ⟨x1, x2, x3⟩ | ⟨x1, x2, x3⟩
    · rcases b4 with ⟨y1, y2, y3⟩ | ⟨y1, y2, y3⟩
      · rw [x2, y2]
      · exact absurd x1 y1
    · rcases b4 with ⟨y1, y2, y3⟩ | ⟨y1, y2, y3⟩
      · exact absurd y1 x1
      · rw [x2, y2]
  · rcases a4 with ⟨x1, x2, x3⟩ | ⟨x1, x2, x3⟩
    · rcases b4 with ⟨y1, y2, y3⟩ | ⟨y1, y2, y3⟩
      · rw [x3, y3]
      · exact absurd x1 y1
    · rcases b4 with ⟨y1, y2, y3⟩ | ⟨y1, y2, y3⟩
      · exact absurd y1 x1
      · rw [x3, y3]
-- the same of the reference's memory
def wr_L (M : xa_M) (X : Int) (M1 : xa_M) : Prop := wy_L (M 60 6) (fun i => M 64 (M 66 i)) (fun i => M 64 (M 67 i)) (M1 78) X
theorem wr_L_k {M M1 M2 : xa_M} {X : Int} (e : ∀ j, M2 78 j = M1 78 j) (h : wr_L M X M1) : wr_L M X M2 := by
  unfold wr_L
  rw [show M2 78 = M1 78 from funext e]
  exact h
theorem wr_L_of {M M1 : xa_M} {X : Int} (hX : 0 ≤ X ∧ X < 10) (hAB : ∀ i, 0 ≤ i → i < M 60 6 → (0 ≤ xw_A M i ∧ xw_A M i < 10) ∧ (0 ≤ xw_B M i ∧ xw_B M i < 10)) (h : xw_I M X M1 10 0) : wr_L M X M1 := by
  refine ⟨xw_fin hX hAB h, fun i i0 i1 => ?_⟩
  obtain ⟨g1, g2⟩ := h.1 i i0 i1
  exact ⟨fun c => g1 (Or.inl c), fun c => g2 (Or.inl c)⟩
-- how far each axle is, is one; there is such a number
theorem wy_le {n X : Int} {A B F G : Int → Int} (hX : 0 ≤ X ∧ X < 10) (hAB : ∀ i, 0 ≤ i → i < n → (0 ≤ A i ∧ A i < 10) ∧ (0 ≤ B i ∧ B i < 10)) (hF : wy_L n A B F X) (hG : wy_L n A B G X) : ∀ (k : Nat) (a : Int), 0 ≤ a → a < 10 → F a = (k : Int) → F a < 99 → G a ≤ F a := by
  intro k
  induction k with
  | zero =>
    intro a a0 a1 h _
    by_cases e : a = X
    · rw [e, hF.1.1, hG.1.1]
      exact Int.le_refl _
    · have := hF.1.2.1 a a0 a1 e
      omega
  | succ k ih =>
    intro a a0 a1 h h9
    have hne : a ≠ X := fun e => by
      have := hF.1.1
      rw [e] at h
      omega
    obtain ⟨h10, hx⟩ := hF.1.2.2 a a0 a1 h9
    obtain ⟨i, ⟨i0, i1⟩, hi⟩ := hx hne
    obtain ⟨gA, gB⟩ := hAB i i0 i1
    obtain ⟨d1, d2⟩ := hG.2 i i0 i1
    rcases hi with ⟨rfl, hi⟩ | ⟨rfl, hi⟩
    · have := ih (B i) gB.1 gB.2 (by omega) (by omega)
      have := d1 (by omega)
      omega
    · have := ih (A i) gA.1 gA.2 (by omega) (by omega)
      have := d2 (by omega)
      omega
theorem wy_one {n X : Int} {A B F G : Int → Int} (hX : 0 ≤ X ∧ X < 10) (hAB : ∀ i, 0 ≤ i → i < n → (0 ≤ A i ∧ A i < 10) ∧ (0 ≤ B i ∧ B i < 10)) (hF : wy_L n A B F X) (hG : wy_L n A B G X) {a : Int} (a0 : 0 ≤ a) (a1 : a < 10) (h0 : 0 ≤ F a) (g0 : 0 ≤ G a) : (F a < 99 → G a = F a) ∧ (99 ≤ F a → 99 ≤ G a) := by
  refine ⟨fun h => ?_, fun h => ?_⟩
  · have u1 := wy_le hX hAB hF hG (F a).toNat a a0 a1 (by omega) h
    have u2 := wy_le hX hAB hG hF (G a).toNat a a0 a1 (by omega) (by omega)
    omega
  · by_cases c : G a < 99
    · have u2 := wy_le hX hAB hG hF (G a).toNat a a0 a1 (by omega) c
      omega
    · omega
theorem wr_st {M M1 : xa_M} {X r m : Int} (h : xw_I M X M1 r m) (hi : 0 ≤ m ∧ m < M 60 6) (hp : ∀ a, 0 ≤ M1 78 a) : ∃ M2 : xa_M, xw_I M X M2 r (m + 1) ∧ ∀ a, 0 ≤ M2 78 a := by
  have pa := hp (xw_A M m)
  have pb := hp (xw_B M m)
  obtain ⟨u, hu⟩ : ∃ u : Int, u ≤ M1 78 (xw_A M m) ∧ u ≤ M1 78 (xw_B M m) + 1 ∧ (u = M1 78 (xw_A M m) ∨ u = M1 78 (xw_B M m) + 1) := by
    by_cases c : M1 78 (xw_A M m) ≤ M1 78 (xw_B M m) + 1
    · exact ⟨_, Int.le_refl _, c, Or.inl rfl⟩
    · exact ⟨M1 78 (xw_B M m) + 1, by omega, Int.le_refl _, Or.inr rfl⟩
  obtain ⟨v, hv⟩ : ∃ v : Int, v ≤ xa_up M1 78 (xw_A M m) u 78 (xw_B M m) ∧ v ≤ u + 1 ∧ (v = xa_up M1 78 (xw_A M m) u 78 (xw_B M m) ∨ v = u + 1) := by
    by_cases c : xa_up M1 78 (xw_A M m) u 78 (xw_B M m) ≤ u + 1
    · exact ⟨_, Int.le_refl _, c, Or.inl rfl⟩
    · exact ⟨u + 1, by omega, Int.le_refl _, Or.inr rfl⟩
  have pm : ∀ a, 0 ≤ xa_up M1 78 (xw_A M m) u 78 a := fun a => by
    rw [xw_up]
    split
    · omega
    · exact hp a
  refine ⟨_, xw_two h hi rfl rfl pa pb hu hv, fun a => ?_⟩
  rw [xw_up]
  split
  · have := pm (xw_B M m)
    omega
  · exact pm a
theorem wr_rn {M M1 : xa_M} {X r : Int} (h : xw_I M X M1 r 0) (hp : ∀ a, 0 ≤ M1 78 a) (hn : 0 ≤ M 60 6) : ∃ M2 : xa_M, xw_I M X M2 (r + 1) 0 ∧ ∀ a, 0 ≤ M2 78 a := by
  have go : ∀ m : Nat, (m : Int) ≤ M 60 6 → ∃ M2 : xa_M, xw_I M X M2 r (m : Int) ∧ ∀ a, 0 ≤ M2 78 a := by
    intro m
    induction m with
    | zero => intro _; exact ⟨M1, h, hp⟩
    | succ m ih =>
      intro hm
      obtain ⟨M2, i1, i2⟩ := ih (by omega)
      obtain ⟨M3, j1, j2⟩ := wr_st i1 ⟨by omega, by omega⟩ i2
      exact ⟨M3, by rw [show ((m + 1 : Nat) : Int) = (m : Int) + 1 by omega]; exact j1, j2⟩
  obtain ⟨M2, i1, i2⟩ := go (M 60 6).toNat (by omega)
  rw [show (((M 60 6).toNat : Nat) : Int) = M 60 6 by omega] at i1
  exact ⟨M2, xw_rd i1 (Int.le_refl _), i2⟩
/-- there is such a number -/
theorem wr_ex {M : xa_M} {X : Int} (hM : xa_Mok xm_I M) (hX : 0 ≤ X ∧ X ≤ 9) (hn : 0 ≤ M 60 6) (hAB : ∀ i, 0 ≤ i → i < M 60 6 → (0 ≤ xw_A M i ∧ xw_A M i < 10) ∧ (0 ≤ xw_B M i ∧ xw_B M i < 10)) : ∃ F : Int → Int, wy_L (M 60 6) (fun i => M 64 (M 66 i)) (fun i => M 64 (M 67 i)) F X ∧ ∀ a, 0 ≤ F a := by
  have hM0 : xa_Mok xm_I (fun q j => if q = 78 then (if j = X then 0 else 99) else M q j) := by
    intro q ro S hq j hj hk
    by_cases e : q = 78
    · subst e
      have h9 := hM 78 ro S hq j hj hk
      cases hq
      show _ ≤ (if (j : Int) = X then (0 : Int) else 99) ∧ (if (j : Int) = X then (0 : Int) else 99) ≤ _
      split
      · exact (show (0 : Int) ≤ 0 ∧ (0 : Int) ≤ 99 by decide)
      · exact (show (0 : Int) ≤ 99 ∧ (99 : Int) ≤ 99 by decide)
    · have h9 := hM q ro S hq j hj hk
      show _ ≤ (if q = 78 then _ else M q j) ∧ (if q = 78 then _ else M q j) ≤ _
      rw [if_neg e]
      exact h9
  have h0 := xw_ini (M := M) (M1 := fun q j => if q = 78 then (if j = X then 0 else 99) else M q j) (n := 10) hM0 hX hAB (Int.le_refl _) (fun i _ _ => rfl)
  have p0 : ∀ a : Int, 0 ≤ (fun (q : Nat) (j : Int) => if q = 78 then (if j = X then (0 : Int) else 99) else M q j) 78 a := fun a => by
    show 0 ≤ (if a = X then (0 : Int) else 99)
    split <;> decide
  have go : ∀ r : Nat, ∃ M2 : xa_M, xw_I M X M2 (r : Int) 0 ∧ ∀ a, 0 ≤ M2 78 a := by
    intro r
    induction r with
    | zero => exact ⟨_, h0, p0⟩
    | succ r ih =>
      obtain ⟨M2, i1, i2⟩ := ih
      obtain ⟨M3, j1, j2⟩ := wr_rn i1 i2 hn
      exact ⟨M3, by rw [show ((r + 1 : Nat) : Int) = (r : Int) + 1 by omega]; exact j1, j2⟩
  obtain ⟨M2, i1, i2⟩ := go 10
  exact ⟨M2 78, wr_L_of ⟨hX.1, by omega⟩ hAB i1, i2⟩
theorem wy_L_k {n n' X : Int} {A B A' B' F : Int → Int} (en : n' = n) (e : ∀ i, 0 ≤ i → i < n → A' i = A i ∧ B' i = B i) (h : wy_L n A B F X) : wy_L n' A' B' F X := by
  subst en
  obtain ⟨⟨h1, h2, h3⟩, h4⟩ := h
  refine ⟨⟨h1, h2, fun a a0 a1 hf => ⟨(h3 a a0 a1 hf).1, fun hx => ?_⟩⟩, fun i i0 i1 => ?_⟩
  · obtain ⟨i, ⟨i0, i1⟩, hi⟩ := (h3 a a0 a1 hf).2 hx
    obtain ⟨e1, e2⟩ := e i i0 i1
    refine ⟨i, ⟨i0, i1⟩, ?_⟩
    rw [e1, e2]
    exact hi
  · obtain ⟨e1, e2⟩ := e i i0 i1
    rw [e1, e2]
    exact h4 i i0 i1
theorem cx_77w {b : Bool} {A : Nat → Nat} {h0 : g_H} {d : Nat} {M : xa_M} {post : Option xa_V → xa_M → Prop} {l1 u1 v : Int} (k : ∀ M1 : xa_M, (∀ j, 0 ≤ j → j < 10 → M1 17 j = v) → (∀ q j, ¬ q = 17 → M1 q j = M q j) → post none M1) : xa_C (xl_I b) A h0 (d + 1) 77 [(2, 17, 0, 0, 0), (0, 0, l1, u1, v)] M post := by
  refine xa_C_arg [(2, 17, 0, 0, 0), (0, 0, (-2147483648), 2147483647, v)] (xa_svR (xa_svI (fun _ _ _ _ => by omega) xa_sv0)) ?_
  refine xa_meth (Q0 := (3, 0, false, 0, 0, 11)) (by decide +kernel) ⟨rfl, rfl⟩ (full := s_c_77) rfl rfl ?_
  intro hM hv Q hgo
  have loop : ∀ (n : Nat) (i : Int) (M1 : xa_M), 0 ≤ i → i ≤ 10 → (∀ q j, ¬ q = 17 → M1 q j = M q j) → (∀ j, 0 ≤ j → j < i → M1 17 j = v) → 10 - i < (n : Int) → Q 2 [(2, (0, 0, 0, 10, i)), (0, (2, 17, 0, 0, 0)), (1, (0, 0, (-2147483648), 2147483647, v))] [] M1 := by
    intro n
    induction n with
    | zero => intro i M1 i0 i1 hk hf hms; omega
    | succ n ih =>
      intro i M1 i0 i1 hk hf hms
      refine hgo.1 15 [2] 2 _ _ _ ?_
      refine And.intro ?_ ?_
      · intro (c1 : 10 ≤ i)
        show post none M1
        exact k _ (fun j j0 j1 => hf j j0 (by omega)) hk
      · intro (c1 : i < 10)
        refine And.intro (show 0 ≤ i ∧ i < 10 by omega) ?_
        show Q 2 [(2, (0, 0, 1, 11, i + 1)), (0, (2, 17, 0, 0, 0)), (1, (0, 0, (-2147483648), 2147483647, v))] [] (xa_up M1 17 i v)
        refine hgo.2.1 2 _ [(2, (0, 0, 0, 10, i + 1)), (0, (2, 17, 0, 0, 0)), (1, (0, 0, (-2147483648), 2147483647, v))] _ _ (xa_subI rfl rfl (fun _ _ _ _ => by omega) (xa_subR rfl (xa_subI rfl rfl (fun _ _ _ _ => by omega) (xa_sub0)))) ?_
        exact ih (i + 1) (xa_up M1 17 i v) (by omega) (by omega) (fun q j hq => (xa_up_ne (fun e => hq e.1)).trans (hk q j hq)) (fun j j0 j1 => by
          by_cases e : j = i
          · rw [e, xa_up_eq]
          · rw [xa_up_ne (fun h => e h.2)]
            exact hf j j0 (by omega)) (by omega)
  refine hgo.1 7 [2] 0 _ _ _ ?_
  show Q 2 [(2, (0, 0, 0, 0, 0)), (0, (2, 17, 0, 0, 0)), (1, (0, 0, (-2147483648), 2147483647, v))] [] M
  refine hgo.2.1 2 _ [(2, (0, 0, 0, 10, 0)), (0, (2, 17, 0, 0, 0)), (1, (0, 0, (-2147483648), 2147483647, v))] _ _ (xa_subI rfl rfl (fun _ _ _ _ => by omega) (xa_subR rfl (xa_subI rfl rfl (fun _ _ _ _ => by omega) (xa_sub0)))) ?_
  exact loop 11 0 M (by omega) (by omega) (fun _ _ _ => rfl) (fun j j0 j1 => by omega) (by omega)
theorem cx_23_17 {b : Bool} {A : Nat → Nat} {h0 : g_H} {d : Nat} {M : xa_M} {post : Option xa_V → xa_M → Prop} {l1 u1 : Int} {i : Int} (h1 : 0 ≤ i ∧ i < 10) (k1 : post (some (0, 0, (-2147483648), 2147483647, M 17 i)) M) : xa_C (xl_I b) A h0 (d + 1) 23 [(2, 17, 0, 0, 0), (0, 0, l1, u1, i)] M post := by
  refine xa_C_arg [(2, 17, 0, 0, 0), (0, 0, (-2147483648), 2147483647, i)] (xa_svR (xa_svI (fun _ _ _ _ => by omega) xa_sv0)) ?_
  refine xa_meth (Q0 := (2, 1, false, 0, 0, 11)) (by decide +kernel) ⟨rfl, rfl⟩ (full := s_c_23) rfl rfl ?_
  intro hM hv Q hgo
  refine hgo.1 15 [] 0 _ _ _ ?_
  refine And.intro ?_ ?_
  · intro (c1 : i < 0)
    show post (some (0, 0, 0, 0, 0)) M
    exact absurd h1 (by omega)
  · intro (c1 : 0 ≤ i)
    refine And.intro ?_ ?_
    · intro (c2 : 10 ≤ i)
      show post (some (0, 0, 0, 0, 0)) M
      exact absurd h1 (by omega)
    · intro (c2 : i < 10)
      refine And.intro (show 0 ≤ i ∧ i < 10 by omega) ?_
      show post (some (0, 0, (-2147483648), 2147483647, M 17 i)) M
      exact k1
theorem cx_18_17 {b : Bool} {A : Nat → Nat} {h0 : g_H} {d : Nat} {M : xa_M} {post : Option xa_V → xa_M → Prop} {l1 u1 l2 u2 : Int} {i v : Int} (h1 : 0 ≤ i ∧ i < 10) (k1 : post none (xa_up M 17 i v)) : xa_C (xl_I b) A h0 (d + 1) 18 [(2, 17, 0, 0, 0), (0, 0, l1, u1, i), (0, 0, l2, u2, v)] M post := by
  refine xa_C_arg [(2, 17, 0, 0, 0), (0, 0, (-2147483648), 2147483647, i), (0, 0, (-2147483648), 2147483647, v)] (xa_svR (xa_svI (fun _ _ _ _ => by omega) (xa_svI (fun _ _ _ _ => by omega) xa_sv0))) ?_
  refine xa_meth (Q0 := (3, 0, false, 0, 0, 11)) (by decide +kernel) ⟨rfl, rfl⟩ (full := s_c_18) rfl rfl ?_
  intro hM hv Q hgo
  refine hgo.1 15 [] 0 _ _ _ ?_
  refine And.intro ?_ ?_
  · intro (c1 : i < 0)
    show post none M
    exact absurd h1 (by omega)
  · intro (c1 : 0 ≤ i)
    refine And.intro ?_ ?_
    · intro (c2 : 10 ≤ i)
      show post none M
      exact absurd h1 (by omega)
    · intro (c2 : i < 10)
      refine And.intro (show 0 ≤ i ∧ i < 10 by omega) ?_
      show post none (xa_up M 17 i v)
      exact k1
theorem cx_78_16 {b : Bool} {A : Nat → Nat} {h0 : g_H} {d : Nat} {M : xa_M} {post : Option xa_V → xa_M → Prop} {l1 u1 l2 u2 l3 u3 : Int} {x1 x2 x3 : Int} (h1 : 0 ≤ x1 ∧ x1 < 10) (h2 : 0 ≤ x2 ∧ x2 < 10) (k1 : (¬ (M 17 x1) = x3) → post none M) (k2 : ((M 17 x1) = x3) → (¬ (M 17 x2) = (-1)) → post none M) (k3 : ((M 17 x1) = x3) → ((M 17 x2) = (-1)) → post none (xa_up M 17 x2 (xa_w32 (x3 + 1)))) : xa_C (xl_I b) A h0 (d + 2) 78 [(2, 16, 0, 0, 0), (0, 0, l1, u1, x1), (0, 0, l2, u2, x2), (0, 0, l3, u3, x3)] M post := by
  refine xa_C_arg [(2, 16, 0, 0, 0), (0, 0, (-2147483648), 2147483647, x1), (0, 0, (-2147483648), 2147483647, x2), (0, 0, (-2147483648), 2147483647, x3)] (xa_svR (xa_svI (fun _ _ _ _ => by omega) (xa_svI (fun _ _ _ _ => by omega) (xa_svI (fun _ _ _ _ => by omega) (xa_sv0))))) ?_
  refine xa_meth (Q0 := (4, 0, false, 0, 0, 10)) (by decide +kernel) ⟨rfl, rfl⟩ (full := s_c_78) rfl rfl ?_
  intro hM hv Q hgo
  refine hgo.1 24 [] 0 _ _ _ ?_
  show xa_C (xl_I b) A h0 _ 23 [(2, 17, 0, 0, 0), (0, 0, (-2147483648), 2147483647, x1)] M _
  refine cx_23_17 (show 0 ≤ x1 ∧ x1 < 10 by omega) ?_
  refine And.intro ?_ ?_
  · intro (c1 : ¬ (M 17 x1) = x3)
    show post none M
    exact k1 c1
  · intro (c1 : (M 17 x1) = x3)
    show xa_C (xl_I b) A h0 _ 23 [(2, 17, 0, 0, 0), (0, 0, (-2147483648), 2147483647, x2)] M _
    refine cx_23_17 (show 0 ≤ x2 ∧ x2 < 10 by omega) ?_
    refine And.intro ?_ ?_
    · intro (c2 : ¬ (M 17 x2) = (-1))
      show post none M
      exact k2 c1 c2
    · intro (c2 : (M 17 x2) = (-1))
      show xa_C (xl_I b) A h0 _ 18 [(2, 17, 0, 0, 0), (0, 0, (-2147483648), 2147483647, x2), (0, 0, (-2147483648), 2147483647, xa_w32 (x3 + 1))] M _
      refine cx_18_17 (show 0 ≤ x2 ∧ x2 < 10 by omega) ?_
      show post none (xa_up M 17 x2 (xa_w32 (x3 + 1)))
      exact k3 c1 c2
theorem cx_76w {b : Bool} {A : Nat → Nat} {h0 : g_H} {d : Nat} {M : xa_M} {post : Option xa_V → xa_M → Prop} {l1 u1 X : Int} {F : Int → Int} (hL : wy_L (M 1 10) (fun i => M 5 (M 7 i)) (fun i => M 5 (M 8 i)) F X) (hX : 0 ≤ X ∧ X < 10) (hn : 0 ≤ M 1 10 ∧ M 1 10 ≤ 16) (hr : ∀ k, 0 ≤ k → k < M 1 10 → (0 ≤ M 7 k ∧ M 7 k < 14) ∧ (0 ≤ M 8 k ∧ M 8 k < 14)) (ha : ∀ w, 0 ≤ w → w < 14 → 0 ≤ M 5 w ∧ M 5 w < 10) (k : ∀ M1 : xa_M, wy_K F (M1 17) 10 → (∀ q j, ¬ q = 17 → M1 q j = M q j) → post none M1) : xa_C (xl_I b) A h0 (d + 3) 76 [(2, 16, 0, 0, 0), (2, 1, 0, 0, 0), (0, 0, l1, u1, X)] M post := by
  refine xa_C_arg [(2, 16, 0, 0, 0), (2, 1, 0, 0, 0), (0, 0, 0, 9, X)] (xa_svR (xa_svR (xa_svI (fun _ _ _ _ => by omega) xa_sv0))) ?_
  refine xa_meth (Q0 := (7, 0, false, 0, 0, 10)) (by decide +kernel) ⟨rfl, rfl⟩ (full := s_c_76) rfl rfl ?_
  intro hM hv Q hgo
  have hF0 : ∀ a, 0 ≤ a → a < 10 → 0 ≤ F a := fun a a0 a1 => by
    by_cases e : a = X
    · rw [e, hL.1.1]
      exact Int.le_refl _
    · have := hL.1.2.1 a a0 a1 e
      omega
  have loop : ∀ (n : Nat) (x : Int) (M1 : xa_M), 0 ≤ x → x ≤ 10 → wy_K F (M1 17) x → (∀ q j, ¬ q = 17 → M1 q j = M q j) → 10 - x < (n : Int) → Q 19 [(3, (0, 0, 0, 10, x)), (2, (0, 0, 0, 9, X)), (1, (2, 1, 0, 0, 0)), (0, (2, 16, 0, 0, 0))] [] M1 := by
    intro n
    induction n with
    | zero => intro x M1 x0 x1 hK hk hms; omega
    | succ n ih =>
      intro x M1 x0 x1 hK hk hms
      have loop2 : ∀ (n2 : Nat) (m : Int) (M1 : xa_M), 0 ≤ m → m ≤ M 1 10 → x < 10 → wy_B F (M1 17) x → wy_D (fun i => M 5 (M 7 i)) (fun i => M 5 (M 8 i)) F (M1 17) x m → (∀ q j, ¬ q = 17 → M1 q j = M q j) → 16 - m < (n2 : Int) → Q 28 [(4, (0, 0, 0, 16, m)), (3, (0, 0, 0, 9, x)), (2, (0, 0, 0, 9, X)), (1, (2, 1, 0, 0, 0)), (0, (2, 16, 0, 0, 0))] [] M1 := by
        intro n2
        induction n2 with
        | zero => intro m M1 m0 m1 x9 hB hD hk hms2; omega
        | succ n2 ih2 =>
          intro m M1 m0 m1 x9 hB hD hk hms2
          have f5 : M1 5 = M 5 := funext (fun j => hk 5 j (by decide))
          have f7 : M1 7 = M 7 := funext (fun j => hk 7 j (by decide))
          have f8 : M1 8 = M 8 := funext (fun j => hk 8 j (by decide))
          have f1 : M1 1 10 = M 1 10 := hk 1 10 (by decide)
          have hr1 : m < M1 1 10 → (0 ≤ M1 7 m ∧ M1 7 m < 14) ∧ (0 ≤ M1 8 m ∧ M1 8 m < 14) := fun h => by
            rw [f7, f8]
            exact hr m m0 (by omega)
          have ha1 : m < M1 1 10 → (0 ≤ M1 5 (M1 7 m) ∧ M1 5 (M1 7 m) < 10) ∧ (0 ≤ M1 5 (M1 8 m) ∧ M1 5 (M1 8 m) < 10) := fun h => by
            have g := hr1 h
            rw [f5]
            exact ⟨ha _ g.1.1 g.1.2, ha _ g.2.1 g.2.2⟩
          refine hgo.1 33 [19, 28] 28 _ _ _ ?_
          refine And.intro ?_ ?_
          · intro (c1 : (M1 1 10) ≤ m)
            show Q 19 [(3, (0, 0, 1, 10, x + 1)), (4, (0, 0, 0, 16, m)), (2, (0, 0, 0, 9, X)), (1, (2, 1, 0, 0, 0)), (0, (2, 16, 0, 0, 0))] [] M1
            refine hgo.2.1 19 _ [(3, (0, 0, 0, 10, x + 1)), (2, (0, 0, 0, 9, X)), (1, (2, 1, 0, 0, 0)), (0, (2, 16, 0, 0, 0))] _ _ (xa_subI rfl rfl (fun _ _ _ _ => by omega) (xa_subI rfl rfl (fun _ _ _ _ => by omega) (xa_subR rfl (xa_subR rfl (xa_sub0))))) ?_
            exact ih (x + 1) M1 (by omega) (by omega) (wy_rd hL ⟨x0, by omega⟩ hB (fun i i0 i1 => hD i i0 (by omega))) hk (by omega)
          · intro (c1 : m < (M1 1 10))
            show xa_C (xl_I b) A h0 _ 40 [(2, 1, 0, 0, 0), (0, 0, 0, 16, m)] M1 _
            refine cx_40_1 (show 0 ≤ m ∧ m < 16 by omega) ?_
            show xa_C (xl_I b) A h0 _ 37 [(2, 1, 0, 0, 0), (0, 0, (-2147483648), 2147483647, M1 7 m)] M1 _
            refine cx_37_1 (show 0 ≤ (M1 7 m) ∧ (M1 7 m) < 14 by omega) ?_
            show xa_C (xl_I b) A h0 _ 41 [(2, 1, 0, 0, 0), (0, 0, 0, 16, m)] M1 _
            refine cx_41_1 (show 0 ≤ m ∧ m < 16 by omega) ?_
            show xa_C (xl_I b) A h0 _ 37 [(2, 1, 0, 0, 0), (0, 0, (-2147483648), 2147483647, M1 8 m)] M1 _
            refine cx_37_1 (show 0 ≤ (M1 8 m) ∧ (M1 8 m) < 14 by omega) ?_
            show xa_C (xl_I b) A h0 _ 78 [(2, 16, 0, 0, 0), (0, 0, (-2147483648), 2147483647, M1 5 (M1 7 m)), (0, 0, (-2147483648), 2147483647, M1 5 (M1 8 m)), (0, 0, 0, 9, x)] M1 _
            refine cx_78_16 (show 0 ≤ (M1 5 (M1 7 m)) ∧ (M1 5 (M1 7 m)) < 10 by omega) (show 0 ≤ (M1 5 (M1 8 m)) ∧ (M1 5 (M1 8 m)) < 10 by omega) ?_ ?_ ?_
            · intro (i2 : ¬ (M1 17 (M1 5 (M1 7 m))) = x)
              show xa_C (xl_I b) A h0 _ 78 [(2, 16, 0, 0, 0), (0, 0, (-2147483648), 2147483647, M1 5 (M1 8 m)), (0, 0, (-2147483648), 2147483647, M1 5 (M1 7 m)), (0, 0, 0, 9, x)] M1 _
              refine cx_78_16 (show 0 ≤ (M1 5 (M1 8 m)) ∧ (M1 5 (M1 8 m)) < 10 by omega) (show 0 ≤ (M1 5 (M1 7 m)) ∧ (M1 5 (M1 7 m)) < 10 by omega) ?_ ?_ ?_
              · intro (i3 : ¬ (M1 17 (M1 5 (M1 8 m))) = x)
                show Q 28 [(4, (0, 0, 1, 17, m + 1)), (6, (0, 0, (-2147483648), 2147483647, M1 5 (M1 8 m))), (5, (0, 0, (-2147483648), 2147483647, M1 5 (M1 7 m))), (3, (0, 0, 0, 9, x)), (2, (0, 0, 0, 9, X)), (1, (2, 1, 0, 0, 0)), (0, (2, 16, 0, 0, 0))] [] M1
                have eA : M1 5 (M1 7 m) = M 5 (M 7 m) := by rw [f5, f7]
                have eB : M1 5 (M1 8 m) = M 5 (M 8 m) := by rw [f5, f8]
                have hL' : (F (M1 5 (M1 8 m)) < 10 → F (M1 5 (M1 7 m)) ≤ F (M1 5 (M1 8 m)) + 1) ∧ (F (M1 5 (M1 7 m)) < 10 → F (M1 5 (M1 8 m)) ≤ F (M1 5 (M1 7 m)) + 1) := by
                  rw [eA, eB]
                  exact hL.2 m m0 (by omega)
                have s1 := wy_sp (F := F) (C := M1 17) (C' := M1 17) (n := x) (x := M1 5 (M1 7 m)) (y := M1 5 (M1 8 m)) hB (by omega) (by omega) (by omega) (hF0 _ (by omega) (by omega)) (fun e => by have := hL'.2 (by omega); omega) (Or.inr ⟨fun h => i2 h.1, fun _ => rfl⟩)
                have s2 := wy_sp (F := F) (C := M1 17) (C' := M1 17) (n := x) (x := M1 5 (M1 8 m)) (y := M1 5 (M1 7 m)) s1.1 (by omega) (by omega) (by omega) (hF0 _ (by omega) (by omega)) (fun e => by have := hL'.1 (by omega); omega) (Or.inr ⟨fun h => i3 h.1, fun _ => rfl⟩)
                refine hgo.2.1 28 _ [(4, (0, 0, 0, 16, m + 1)), (3, (0, 0, 0, 9, x)), (2, (0, 0, 0, 9, X)), (1, (2, 1, 0, 0, 0)), (0, (2, 16, 0, 0, 0))] _ _ (xa_subI rfl rfl (fun _ _ _ _ => by omega) (xa_subI rfl rfl (fun _ _ _ _ => by omega) (xa_subI rfl rfl (fun _ _ _ _ => by omega) (xa_subR rfl (xa_subR rfl (xa_sub0)))))) ?_
                exact ih2 (m + 1) M1 (by omega) (by omega) (by omega) s2.1 (wy_nx hD s1.2.2 s2.2.2 (fun g1 g2 => by
                  have g1 : F (M 5 (M 7 m)) = x := g1
                  have g2 : F (M 5 (M 8 m)) = x + 1 := g2
                  rw [← eA] at g1
                  rw [← eB] at g2
                  exact (congrArg (M1 17) eB.symm).trans (s1.2.1 g1 g2)) (fun g1 g2 => by
                  have g1 : F (M 5 (M 8 m)) = x := g1
                  have g2 : F (M 5 (M 7 m)) = x + 1 := g2
                  rw [← eB] at g1
                  rw [← eA] at g2
                  exact (congrArg (M1 17) eA.symm).trans (s2.2.1 g1 g2))) (fun q j hq => by first | exact hk q j hq | exact (xa_up_ne (fun e => hq e.1)).trans (hk q j hq) | exact (xa_up_ne (fun e => hq e.1)).trans ((xa_up_ne (fun e => hq e.1)).trans (hk q j hq))) (by omega)
              · intro (i4 : (M1 17 (M1 5 (M1 8 m))) = x) (i5 : ¬ (M1 17 (M1 5 (M1 7 m))) = (-1))
                show Q 28 [(4, (0, 0, 1, 17, m + 1)), (6, (0, 0, (-2147483648), 2147483647, M1 5 (M1 8 m))), (5, (0, 0, (-2147483648), 2147483647, M1 5 (M1 7 m))), (3, (0, 0, 0, 9, x)), (2, (0, 0, 0, 9, X)), (1, (2, 1, 0, 0, 0)), (0, (2, 16, 0, 0, 0))] [] M1
                have eA : M1 5 (M1 7 m) = M 5 (M 7 m) := by rw [f5, f7]
                have eB : M1 5 (M1 8 m) = M 5 (M 8 m) := by rw [f5, f8]
                have hL' : (F (M1 5 (M1 8 m)) < 10 → F (M1 5 (M1 7 m)) ≤ F (M1 5 (M1 8 m)) + 1) ∧ (F (M1 5 (M1 7 m)) < 10 → F (M1 5 (M1 8 m)) ≤ F (M1 5 (M1 7 m)) + 1) := by
                  rw [eA, eB]
                  exact hL.2 m m0 (by omega)
                have s1 := wy_sp (F := F) (C := M1 17) (C' := M1 17) (n := x) (x := M1 5 (M1 7 m)) (y := M1 5 (M1 8 m)) hB (by omega) (by omega) (by omega) (hF0 _ (by omega) (by omega)) (fun e => by have := hL'.2 (by omega); omega) (Or.inr ⟨fun h => i2 h.1, fun _ => rfl⟩)
                have s2 := wy_sp (F := F) (C := M1 17) (C' := M1 17) (n := x) (x := M1 5 (M1 8 m)) (y := M1 5 (M1 7 m)) s1.1 (by omega) (by omega) (by omega) (hF0 _ (by omega) (by omega)) (fun e => by have := hL'.1 (by omega); omega) (Or.inr ⟨fun h => i5 h.2, fun _ => rfl⟩)
                refine hgo.2.1 28 _ [(4, (0, 0, 0, 16, m + 1)), (3, (0, 0, 0, 9, x)), (2, (0, 0, 0, 9, X)), (1, (2, 1, 0, 0, 0)), (0, (2, 16, 0, 0, 0))] _ _ (xa_subI rfl rfl (fun _ _ _ _ => by omega) (xa_subI rfl rfl (fun _ _ _ _ => by omega) (xa_subI rfl rfl (fun _ _ _ _ => by omega) (xa_subR rfl (xa_subR rfl (xa_sub0)))))) ?_
                exact ih2 (m + 1) M1 (by omega) (by omega) (by omega) s2.1 (wy_nx hD s1.2.2 s2.2.2 (fun g1 g2 => by
                  have g1 : F (M 5 (M 7 m)) = x := g1
                  have g2 : F (M 5 (M 8 m)) = x + 1 := g2
                  rw [← eA] at g1
                  rw [← eB] at g2
                  exact (congrArg (M1 17) eB.symm).trans (s1.2.1 g1 g2)) (fun g1 g2 => by
                  have g1 : F (M 5 (M 8 m)) = x := g1
                  have g2 : F (M 5 (M 7 m)) = x + 1 := g2
                  rw [← eB] at g1
                  rw [← eA] at g2
                  exact (congrArg (M1 17) eA.symm).trans (s2.2.1 g1 g2))) (fun q j hq => by first | exact hk q j hq | exact (xa_up_ne (fun e => hq e.1)).trans (hk q j hq) | exact (xa_up_ne (fun e => hq e.1)).trans ((xa_up_ne (fun e => hq e.1)).trans (hk q j hq))) (by omega)
              · intro (i6 : (M1 17 (M1 5 (M1 8 m))) = x) (i7 : (M1 17 (M1 5 (M1 7 m))) = (-1))
                show Q 28 [(4, (0, 0, 1, 17, m + 1)), (6, (0, 0, (-2147483648), 2147483647, M1 5 (M1 8 m))), (5, (0, 0, (-2147483648), 2147483647, M1 5 (M1 7 m))), (3, (0, 0, 0, 9, x)), (2, (0, 0, 0, 9, X)), (1, (2, 1, 0, 0, 0)), (0, (2, 16, 0, 0, 0))] [] (xa_up M1 17 (M1 5 (M1 7 m)) (xa_w32 (x + 1)))
                have eA : M1 5 (M1 7 m) = M 5 (M 7 m) := by rw [f5, f7]
                have eB : M1 5 (M1 8 m) = M 5 (M 8 m) := by rw [f5, f8]
                have hL' : (F (M1 5 (M1 8 m)) < 10 → F (M1 5 (M1 7 m)) ≤ F (M1 5 (M1 8 m)) + 1) ∧ (F (M1 5 (M1 7 m)) < 10 → F (M1 5 (M1 8 m)) ≤ F (M1 5 (M1 7 m)) + 1) := by
                  rw [eA, eB]
                  exact hL.2 m m0 (by omega)
                have s1 := wy_sp (F := F) (C := M1 17) (C' := M1 17) (n := x) (x := M1 5 (M1 7 m)) (y := M1 5 (M1 8 m)) hB (by omega) (by omega) (by omega) (hF0 _ (by omega) (by omega)) (fun e => by have := hL'.2 (by omega); omega) (Or.inr ⟨fun h => i2 h.1, fun _ => rfl⟩)
                have s2 := wy_sp (F := F) (C := M1 17) (C' := (xa_up M1 17 (M1 5 (M1 7 m)) (xa_w32 (x + 1))) 17) (n := x) (x := M1 5 (M1 8 m)) (y := M1 5 (M1 7 m)) s1.1 (by omega) (by omega) (by omega) (hF0 _ (by omega) (by omega)) (fun e => by have := hL'.1 (by omega); omega) (Or.inl ⟨i6, i7, fun a => by rw [xw_up, xa_w32_id (by omega) (by omega)]⟩)
                refine hgo.2.1 28 _ [(4, (0, 0, 0, 16, m + 1)), (3, (0, 0, 0, 9, x)), (2, (0, 0, 0, 9, X)), (1, (2, 1, 0, 0, 0)), (0, (2, 16, 0, 0, 0))] _ _ (xa_subI rfl rfl (fun _ _ _ _ => by omega) (xa_subI rfl rfl (fun _ _ _ _ => by omega) (xa_subI rfl rfl (fun _ _ _ _ => by omega) (xa_subR rfl (xa_subR rfl (xa_sub0)))))) ?_
                exact ih2 (m + 1) (xa_up M1 17 (M1 5 (M1 7 m)) (xa_w32 (x + 1))) (by omega) (by omega) (by omega) s2.1 (wy_nx hD s1.2.2 s2.2.2 (fun g1 g2 => by
                  have g1 : F (M 5 (M 7 m)) = x := g1
                  have g2 : F (M 5 (M 8 m)) = x + 1 := g2
                  rw [← eA] at g1
                  rw [← eB] at g2
                  exact (congrArg (M1 17) eB.symm).trans (s1.2.1 g1 g2)) (fun g1 g2 => by
                  have g1 : F (M 5 (M 8 m)) = x := g1
                  have g2 : F (M 5 (M 7 m)) = x + 1 := g2
                  rw [← eB] at g1
                  rw [← eA] at g2
                  exact (congrArg ((xa_up M1 17 (M1 5 (M1 7 m)) (xa_w32 (x + 1))) 17) eA.symm).trans (s2.2.1 g1 g2))) (fun q j hq => by first | exact hk q j hq | exact (xa_up_ne (fun e => hq e.1)).trans (hk q j hq) | exact (xa_up_ne (fun e => hq e.1)).trans ((xa_up_ne (fun e => hq e.1)).trans (hk q j hq))) (by omega)
            · intro (i8 : (M1 17 (M1 5 (M1 7 m))) = x) (i9 : ¬ (M1 17 (M1 5 (M1 8 m))) = (-1))
              show xa_C (xl_I b) A h0 _ 78 [(2, 16, 0, 0, 0), (0, 0, (-2147483648), 2147483647, M1 5 (M1 8 m)), (0, 0, (-2147483648), 2147483647, M1 5 (M1 7 m)), (0, 0, 0, 9, x)] M1 _
              refine cx_78_16 (show 0 ≤ (M1 5 (M1 8 m)) ∧ (M1 5 (M1 8 m)) < 10 by omega) (show 0 ≤ (M1 5 (M1 7 m)) ∧ (M1 5 (M1 7 m)) < 10 by omega) ?_ ?_ ?_
              · intro (i10 : ¬ (M1 17 (M1 5 (M1 8 m))) = x)
                show Q 28 [(4, (0, 0, 1, 17, m + 1)), (6, (0, 0, (-2147483648), 2147483647, M1 5 (M1 8 m))), (5, (0, 0, (-2147483648), 2147483647, M1 5 (M1 7 m))), (3, (0, 0, 0, 9, x)), (2, (0, 0, 0, 9, X)), (1, (2, 1, 0, 0, 0)), (0, (2, 16, 0, 0, 0))] [] M1
                have eA : M1 5 (M1 7 m) = M 5 (M 7 m) := by rw [f5, f7]
                have eB : M1 5 (M1 8 m) = M 5 (M 8 m) := by rw [f5, f8]
                have hL' : (F (M1 5 (M1 8 m)) < 10 → F (M1 5 (M1 7 m)) ≤ F (M1 5 (M1 8 m)) + 1) ∧ (F (M1 5 (M1 7 m)) < 10 → F (M1 5 (M1 8 m)) ≤ F (M1 5 (M1 7 m)) + 1) := by
                  rw [eA, eB]
                  exact hL.2 m m0 (by omega)
                have s1 := wy_sp (F := F) (C := M1 17) (C' := M1 17) (n := x) (x := M1 5 (M1 7 m)) (y := M1 5 (M1 8 m)) hB (by omega) (by omega) (by omega) (hF0 _ (by omega) (by omega)) (fun e => by have := hL'.2 (by omega); omega) (Or.inr ⟨fun h => i9 h.2, fun _ => rfl⟩)
                have s2 := wy_sp (F := F) (C := M1 17) (C' := M1 17) (n := x) (x := M1 5 (M1 8 m)) (y := M1 5 (M1 7 m)) s1.1 (by omega) (by omega) (by omega) (hF0 _ (by omega) (by omega)) (fun e => by have := hL'.1 (by omega); omega) (Or.inr ⟨fun h => i10 h.1, fun _ => rfl⟩)
                refine hgo.2.1 28 _ [(4, (0, 0, 0, 16, m + 1)), (3, (0, 0, 0, 9, x)), (2, (0, 0, 0, 9, X)), (1, (2, 1, 0, 0, 0)), (0, (2, 16, 0, 0, 0))] _ _ (xa_subI rfl rfl (fun _ _ _ _ => by omega) (xa_subI rfl rfl (fun _ _ _ _ => by omega) (xa_subI rfl rfl (fun _ _ _ _ => by omega) (xa_subR rfl (xa_subR rfl (xa_sub0)))))) ?_
                exact ih2 (m + 1) M1 (by omega) (by omega) (by omega) s2.1 (wy_nx hD s1.2.2 s2.2.2 (fun g1 g2 => by
                  have g1 : F (M 5 (M 7 m)) = x := g1
                  have g2 : F (M 5 (M 8 m)) = x + 1 := g2
                  rw [← eA] at g1
                  rw [← eB] at g2
                  exact (congrArg (M1 17) eB.symm).trans (s1.2.1 g1 g2)) (fun g1 g2 => by
                  have g1 : F (M 5 (M 8 m)) = x := g1
                  have g2 : F (M 5 (M 7 m)) = x + 1 := g2
                  rw [← eB] at g1
                  rw [← eA] at g2
                  exact (congrArg (M1 17) eA.symm).trans (s2.2.1 g1 g2))) (fun q j hq => by first | exact hk q j hq | exact (xa_up_ne (fun e => hq e.1)).trans (hk q j hq) | exact (xa_up_ne (fun e => hq e.1)).trans ((xa_up_ne (fun e => hq e.1)).trans (hk q j hq))) (by omega)
              · intro (i11 : (M1 17 (M1 5 (M1 8 m))) = x) (i12 : ¬ (M1 17 (M1 5 (M1 7 m))) = (-1))
                show Q 28 [(4, (0, 0, 1, 17, m + 1)), (6, (0, 0, (-2147483648), 2147483647, M1 5 (M1 8 m))), (5, (0, 0, (-2147483648), 2147483647, M1 5 (M1 7 m))), (3, (0, 0, 0, 9, x)), (2, (0, 0, 0, 9, X)), (1, (2, 1, 0, 0, 0)), (0, (2, 16, 0, 0, 0))] [] M1
                have eA : M1 5 (M1 7 m) = M 5 (M 7 m) := by rw [f5, f7]
                have eB : M1 5 (M1 8 m) = M 5 (M 8 m) := by rw [f5, f8]
                have hL' : (F (M1 5 (M1 8 m)) < 10 → F (M1 5 (M1 7 m)) ≤ F (M1 5 (M1 8 m)) + 1) ∧ (F (M1 5 (M1 7 m)) < 10 → F (M1 5 (M1 8 m)) ≤ F (M1 5 (M1 7 m)) + 1) := by
                  rw [eA, eB]
                  exact hL.2 m m0 (by omega)
                have s1 := wy_sp (F := F) (C := M1 17) (C' := M1 17) (n := x) (x := M1 5 (M1 7 m)) (y := M1 5 (M1 8 m)) hB (by omega) (by omega) (by omega) (hF0 _ (by omega) (by omega)) (fun e => by have := hL'.2 (by omega); omega) (Or.inr ⟨fun h => i9 h.2, fun _ => rfl⟩)
                have s2 := wy_sp (F := F) (C := M1 17) (C' := M1 17) (n := x) (x := M1 5 (M1 8 m)) (y := M1 5 (M1 7 m)) s1.1 (by omega) (by omega) (by omega) (hF0 _ (by omega) (by omega)) (fun e => by have := hL'.1 (by omega); omega) (Or.inr ⟨fun h => i12 h.2, fun _ => rfl⟩)
                refine hgo.2.1 28 _ [(4, (0, 0, 0, 16, m + 1)), (3, (0, 0, 0, 9, x)), (2, (0, 0, 0, 9, X)), (1, (2, 1, 0, 0, 0)), (0, (2, 16, 0, 0, 0))] _ _ (xa_subI rfl rfl (fun _ _ _ _ => by omega) (xa_subI rfl rfl (fun _ _ _ _ => by omega) (xa_subI rfl rfl (fun _ _ _ _ => by omega) (xa_subR rfl (xa_subR rfl (xa_sub0)))))) ?_
                exact ih2 (m + 1) M1 (by omega) (by omega) (by omega) s2.1 (wy_nx hD s1.2.2 s2.2.2 (fun g1 g2 => by
                  have g1 : F (M 5 (M 7 m)) = x := g1
                  have g2 : F (M 5 (M 8 m)) = x + 1 := g2
                  rw [← eA] at g1
                  rw [← eB] at g2
                  exact (congrArg (M1 17) eB.symm).trans (s1.2.1 g1 g2)) (fun g1 g2 => by
                  have g1 : F (M 5 (M 8 m)) = x := g1
                  have g2 : F (M 5 (M 7 m)) = x + 1 := g2
                  rw [← eB] at g1
                  rw [← eA] at g2
                  exact (congrArg (M1 17) eA.symm).trans (s2.2.1 g1 g2))) (fun q j hq => by first | exact hk q j hq | exact (xa_up_ne (fun e => hq e.1)).trans (hk q j hq) | exact (xa_up_ne (fun e => hq e.1)).trans ((xa_up_ne (fun e => hq e.1)).trans (hk q j hq))) (by omega)
              · intro (i13 : (M1 17 (M1 5 (M1 8 m))) = x) (i14 : (M1 17 (M1 5 (M1 7 m))) = (-1))
                show Q 28 [(4, (0, 0, 1, 17, m + 1)), (6, (0, 0, (-2147483648), 2147483647, M1 5 (M1 8 m))), (5, (0, 0, (-2147483648), 2147483647, M1 5 (M1 7 m))), (3, (0, 0, 0, 9, x)), (2, (0, 0, 0, 9, X)), (1, (2, 1, 0, 0, 0)), (0, (2, 16, 0, 0, 0))] [] (xa_up M1 17 (M1 5 (M1 7 m)) (xa_w32 (x + 1)))
                have eA : M1 5 (M1 7 m) = M 5 (M 7 m) := by rw [f5, f7]
                have eB : M1 5 (M1 8 m) = M 5 (M 8 m) := by rw [f5, f8]
                have hL' : (F (M1 5 (M1 8 m)) < 10 → F (M1 5 (M1 7 m)) ≤ F (M1 5 (M1 8 m)) + 1) ∧ (F (M1 5 (M1 7 m)) < 10 → F (M1 5 (M1 8 m)) ≤ F (M1 5 (M1 7 m)) + 1) := by
                  rw [eA, eB]
                  exact hL.2 m m0 (by omega)
                have s1 := wy_sp (F := F) (C := M1 17) (C' := M1 17) (n := x) (x := M1 5 (M1 7 m)) (y := M1 5 (M1 8 m)) hB (by omega) (by omega) (by omega) (hF0 _ (by omega) (by omega)) (fun e => by have := hL'.2 (by omega); omega) (Or.inr ⟨fun h => i9 h.2, fun _ => rfl⟩)
                have s2 := wy_sp (F := F) (C := M1 17) (C' := (xa_up M1 17 (M1 5 (M1 7 m)) (xa_w32 (x + 1))) 17) (n := x) (x := M1 5 (M1 8 m)) (y := M1 5 (M1 7 m)) s1.1 (by omega) (by omega) (by omega) (hF0 _ (by omega) (by omega)) (fun e => by have := hL'.1 (by omega); omega) (Or.inl ⟨i13, i14, fun a => by rw [xw_up, xa_w32_id (by omega) (by omega)]⟩)
                refine hgo.2.1 28 _ [(4, (0, 0, 0, 16, m + 1)), (3, (0, 0, 0, 9, x)), (2, (0, 0, 0, 9, X)), (1, (2, 1, 0, 0, 0)), (0, (2, 16, 0, 0, 0))] _ _ (xa_subI rfl rfl (fun _ _ _ _ => by omega) (xa_subI rfl rfl (fun _ _ _ _ => by omega) (xa_subI rfl rfl (fun _ _ _ _ => by omega) (xa_subR rfl (xa_subR rfl (xa_sub0)))))) ?_
                exact ih2 (m + 1) (xa_up M1 17 (M1 5 (M1 7 m)) (xa_w32 (x + 1))) (by omega) (by omega) (by omega) s2.1 (wy_nx hD s1.2.2 s2.2.2 (fun g1 g2 => by
                  have g1 : F (M 5 (M 7 m)) = x := g1
                  have g2 : F (M 5 (M 8 m)) = x + 1 := g2
                  rw [← eA] at g1
                  rw [← eB] at g2
                  exact (congrArg (M1 17) eB.symm).trans (s1.2.1 g1 g2)) (fun g1 g2 => by
                  have g1 : F (M 5 (M 8 m)) = x := g1
                  have g2 : F (M 5 (M 7 m)) = x + 1 := g2
                  rw [← eB] at g1
                  rw [← eA] at g2
                  exact (congrArg ((xa_up M1 17 (M1 5 (M1 7 m)) (xa_w32 (x + 1))) 17) eA.symm).trans (s2.2.1 g1 g2))) (fun q j hq => by first | exact hk q j hq | exact (xa_up_ne (fun e => hq e.1)).trans (hk q j hq) | exact (xa_up_ne (fun e => hq e.1)).trans ((xa_up_ne (fun e => hq e.1)).trans (hk q j hq))) (by omega)
            · intro (i15 : (M1 17 (M1 5 (M1 7 m))) = x) (i16 : (M1 17 (M1 5 (M1 8 m))) = (-1))
              show xa_C (xl_I b) A h0 _ 78 [(2, 16, 0, 0, 0), (0, 0, (-2147483648), 2147483647, M1 5 (M1 8 m)), (0, 0, (-2147483648), 2147483647, M1 5 (M1 7 m)), (0, 0, 0, 9, x)] (xa_up M1 17 (M1 5 (M1 8 m)) (xa_w32 (x + 1))) _
              refine cx_78_16 (show 0 ≤ (M1 5 (M1 8 m)) ∧ (M1 5 (M1 8 m)) < 10 by omega) (show 0 ≤ (M1 5 (M1 7 m)) ∧ (M1 5 (M1 7 m)) < 10 by omega) ?_ ?_ ?_
              · intro i17
                have i17w := i17
                rw [xa_up_eq] at i17w
                show Q 28 [(4, (0, 0, 1, 17, m + 1)), (6, (0, 0, (-2147483648), 2147483647, M1 5 (M1 8 m))), (5, (0, 0, (-2147483648), 2147483647, M1 5 (M1 7 m))), (3, (0, 0, 0, 9, x)), (2, (0, 0, 0, 9, X)), (1, (2, 1, 0, 0, 0)), (0, (2, 16, 0, 0, 0))] [] (xa_up M1 17 (M1 5 (M1 8 m)) (xa_w32 (x + 1)))
                have eA : M1 5 (M1 7 m) = M 5 (M 7 m) := by rw [f5, f7]
                have eB : M1 5 (M1 8 m) = M 5 (M 8 m) := by rw [f5, f8]
                have hL' : (F (M1 5 (M1 8 m)) < 10 → F (M1 5 (M1 7 m)) ≤ F (M1 5 (M1 8 m)) + 1) ∧ (F (M1 5 (M1 7 m)) < 10 → F (M1 5 (M1 8 m)) ≤ F (M1 5 (M1 7 m)) + 1) := by
                  rw [eA, eB]
                  exact hL.2 m m0 (by omega)
                have s1 := wy_sp (F := F) (C := M1 17) (C' := (xa_up M1 17 (M1 5 (M1 8 m)) (xa_w32 (x + 1))) 17) (n := x) (x := M1 5 (M1 7 m)) (y := M1 5 (M1 8 m)) hB (by omega) (by omega) (by omega) (hF0 _ (by omega) (by omega)) (fun e => by have := hL'.2 (by omega); omega) (Or.inl ⟨i15, i16, fun a => by rw [xw_up, xa_w32_id (by omega) (by omega)]⟩)
                have s2 := wy_sp (F := F) (C := (xa_up M1 17 (M1 5 (M1 8 m)) (xa_w32 (x + 1))) 17) (C' := (xa_up M1 17 (M1 5 (M1 8 m)) (xa_w32 (x + 1))) 17) (n := x) (x := M1 5 (M1 8 m)) (y := M1 5 (M1 7 m)) s1.1 (by omega) (by omega) (by omega) (hF0 _ (by omega) (by omega)) (fun e => by have := hL'.1 (by omega); omega) (Or.inr ⟨fun h => i17 h.1, fun _ => rfl⟩)
                refine hgo.2.1 28 _ [(4, (0, 0, 0, 16, m + 1)), (3, (0, 0, 0, 9, x)), (2, (0, 0, 0, 9, X)), (1, (2, 1, 0, 0, 0)), (0, (2, 16, 0, 0, 0))] _ _ (xa_subI rfl rfl (fun _ _ _ _ => by omega) (xa_subI rfl rfl (fun _ _ _ _ => by omega) (xa_subI rfl rfl (fun _ _ _ _ => by omega) (xa_subR rfl (xa_subR rfl (xa_sub0)))))) ?_
                exact ih2 (m + 1) (xa_up M1 17 (M1 5 (M1 8 m)) (xa_w32 (x + 1))) (by omega) (by omega) (by omega) s2.1 (wy_nx hD s1.2.2 s2.2.2 (fun g1 g2 => by
                  have g1 : F (M 5 (M 7 m)) = x := g1
                  have g2 : F (M 5 (M 8 m)) = x + 1 := g2
                  rw [← eA] at g1
                  rw [← eB] at g2
                  exact (congrArg ((xa_up M1 17 (M1 5 (M1 8 m)) (xa_w32 (x + 1))) 17) eB.symm).trans (s1.2.1 g1 g2)) (fun g1 g2 => by
                  have g1 : F (M 5 (M 8 m)) = x := g1
                  have g2 : F (M 5 (M 7 m)) = x + 1 := g2
                  rw [← eB] at g1
                  rw [← eA] at g2
                  exact (congrArg ((xa_up M1 17 (M1 5 (M1 8 m)) (xa_w32 (x + 1))) 17) eA.symm).trans (s2.2.1 g1 g2))) (fun q j hq => by first | exact hk q j hq | exact (xa_up_ne (fun e => hq e.1)).trans (hk q j hq) | exact (xa_up_ne (fun e => hq e.1)).trans ((xa_up_ne (fun e => hq e.1)).trans (hk q j hq))) (by omega)
              · intro i18 (i19 : ¬ ((xa_up M1 17 (M1 5 (M1 8 m)) (xa_w32 (x + 1))) 17 (M1 5 (M1 7 m))) = (-1))
                have i18w := i18
                rw [xa_up_eq] at i18w
                show Q 28 [(4, (0, 0, 1, 17, m + 1)), (6, (0, 0, (-2147483648), 2147483647, M1 5 (M1 8 m))), (5, (0, 0, (-2147483648), 2147483647, M1 5 (M1 7 m))), (3, (0, 0, 0, 9, x)), (2, (0, 0, 0, 9, X)), (1, (2, 1, 0, 0, 0)), (0, (2, 16, 0, 0, 0))] [] (xa_up M1 17 (M1 5 (M1 8 m)) (xa_w32 (x + 1)))
                have eA : M1 5 (M1 7 m) = M 5 (M 7 m) := by rw [f5, f7]
                have eB : M1 5 (M1 8 m) = M 5 (M 8 m) := by rw [f5, f8]
                have hL' : (F (M1 5 (M1 8 m)) < 10 → F (M1 5 (M1 7 m)) ≤ F (M1 5 (M1 8 m)) + 1) ∧ (F (M1 5 (M1 7 m)) < 10 → F (M1 5 (M1 8 m)) ≤ F (M1 5 (M1 7 m)) + 1) := by
                  rw [eA, eB]
                  exact hL.2 m m0 (by omega)
                have s1 := wy_sp (F := F) (C := M1 17) (C' := (xa_up M1 17 (M1 5 (M1 8 m)) (xa_w32 (x + 1))) 17) (n := x) (x := M1 5 (M1 7 m)) (y := M1 5 (M1 8 m)) hB (by omega) (by omega) (by omega) (hF0 _ (by omega) (by omega)) (fun e => by have := hL'.2 (by omega); omega) (Or.inl ⟨i15, i16, fun a => by rw [xw_up, xa_w32_id (by omega) (by omega)]⟩)
                have s2 := wy_sp (F := F) (C := (xa_up M1 17 (M1 5 (M1 8 m)) (xa_w32 (x + 1))) 17) (C' := (xa_up M1 17 (M1 5 (M1 8 m)) (xa_w32 (x + 1))) 17) (n := x) (x := M1 5 (M1 8 m)) (y := M1 5 (M1 7 m)) s1.1 (by omega) (by omega) (by omega) (hF0 _ (by omega) (by omega)) (fun e => by have := hL'.1 (by omega); omega) (Or.inr ⟨fun h => i19 h.2, fun _ => rfl⟩)
                refine hgo.2.1 28 _ [(4, (0, 0, 0, 16, m + 1)), (3, (0, 0, 0, 9, x)), (2, (0, 0, 0, 9, X)), (1, (2, 1, 0, 0, 0)), (0, (2, 16, 0, 0, 0))] _ _ (xa_subI rfl rfl (fun _ _ _ _ => by omega) (xa_subI rfl rfl (fun _ _ _ _ => by omega) (xa_subI rfl rfl (fun _ _ _ _ => by omega) (xa_subR rfl (xa_subR rfl (xa_sub0)))))) ?_
                exact ih2 (m + 1) (xa_up M1 17 (M1 5 (M1 8 m)) (xa_w32 (x + 1))) (by omega) (by omega) (by omega) s2.1 (wy_nx hD s1.2.2 s2.2.2 (fun g1 g2 => by
                  have g1 : F (M 5 (M 7 m)) = x := g1
                  have g2 : F (M 5 (M 8 m)) = x + 1 := g2
                  rw [← eA] at g1
                  rw [← eB] at g2
                  exact (congrArg ((xa_up M1 17 (M1 5 (M1 8 m)) (xa_w32 (x + 1))) 17) eB.symm).trans (s1.2.1 g1 g2)) (fun g1 g2 => by
                  have g1 : F (M 5 (M 8 m)) = x := g1
                  have g2 : F (M 5 (M 7 m)) = x + 1 := g2
                  rw [← eB] at g1
                  rw [← eA] at g2
                  exact (congrArg ((xa_up M1 17 (M1 5 (M1 8 m)) (xa_w32 (x + 1))) 17) eA.symm).trans (s2.2.1 g1 g2))) (fun q j hq => by first | exact hk q j hq | exact (xa_up_ne (fun e => hq e.1)).trans (hk q j hq) | exact (xa_up_ne (fun e => hq e.1)).trans ((xa_up_ne (fun e => hq e.1)).trans (hk q j hq))) (by omega)
              · intro i20 (i21 : ((xa_up M1 17 (M1 5 (M1 8 m)) (xa_w32 (x + 1))) 17 (M1 5 (M1 7 m))) = (-1))
                have i20w := i20
                rw [xa_up_eq] at i20w
                show Q 28 [(4, (0, 0, 1, 17, m + 1)), (6, (0, 0, (-2147483648), 2147483647, M1 5 (M1 8 m))), (5, (0, 0, (-2147483648), 2147483647, M1 5 (M1 7 m))), (3, (0, 0, 0, 9, x)), (2, (0, 0, 0, 9, X)), (1, (2, 1, 0, 0, 0)), (0, (2, 16, 0, 0, 0))] [] (xa_up (xa_up M1 17 (M1 5 (M1 8 m)) (xa_w32 (x + 1))) 17 (M1 5 (M1 7 m)) (xa_w32 (x + 1)))
                have eA : M1 5 (M1 7 m) = M 5 (M 7 m) := by rw [f5, f7]
                have eB : M1 5 (M1 8 m) = M 5 (M 8 m) := by rw [f5, f8]
                have hL' : (F (M1 5 (M1 8 m)) < 10 → F (M1 5 (M1 7 m)) ≤ F (M1 5 (M1 8 m)) + 1) ∧ (F (M1 5 (M1 7 m)) < 10 → F (M1 5 (M1 8 m)) ≤ F (M1 5 (M1 7 m)) + 1) := by
                  rw [eA, eB]
                  exact hL.2 m m0 (by omega)
                have s1 := wy_sp (F := F) (C := M1 17) (C' := (xa_up M1 17 (M1 5 (M1 8 m)) (xa_w32 (x + 1))) 17) (n := x) (x := M1 5 (M1 7 m)) (y := M1 5 (M1 8 m)) hB (by omega) (by omega) (by omega) (hF0 _ (by omega) (by omega)) (fun e => by have := hL'.2 (by omega); omega) (Or.inl ⟨i15, i16, fun a => by rw [xw_up, xa_w32_id (by omega) (by omega)]⟩)
                have s2 := wy_sp (F := F) (C := (xa_up M1 17 (M1 5 (M1 8 m)) (xa_w32 (x + 1))) 17) (C' := (xa_up (xa_up M1 17 (M1 5 (M1 8 m)) (xa_w32 (x + 1))) 17 (M1 5 (M1 7 m)) (xa_w32 (x + 1))) 17) (n := x) (x := M1 5 (M1 8 m)) (y := M1 5 (M1 7 m)) s1.1 (by omega) (by omega) (by omega) (hF0 _ (by omega) (by omega)) (fun e => by have := hL'.1 (by omega); omega) (Or.inl ⟨i20, i21, fun a => by rw [xw_up, xa_w32_id (by omega) (by omega)]⟩)
                refine hgo.2.1 28 _ [(4, (0, 0, 0, 16, m + 1)), (3, (0, 0, 0, 9, x)), (2, (0, 0, 0, 9, X)), (1, (2, 1, 0, 0, 0)), (0, (2, 16, 0, 0, 0))] _ _ (xa_subI rfl rfl (fun _ _ _ _ => by omega) (xa_subI rfl rfl (fun _ _ _ _ => by omega) (xa_subI rfl rfl (fun _ _ _ _ => by omega) (xa_subR rfl (xa_subR rfl (xa_sub0)))))) ?_
                exact ih2 (m + 1) (xa_up (xa_up M1 17 (M1 5 (M1 8 m)) (xa_w32 (x + 1))) 17 (M1 5 (M1 7 m)) (xa_w32 (x + 1))) (by omega) (by omega) (by omega) s2.1 (wy_nx hD s1.2.2 s2.2.2 (fun g1 g2 => by
                  have g1 : F (M 5 (M 7 m)) = x := g1
                  have g2 : F (M 5 (M 8 m)) = x + 1 := g2
                  rw [← eA] at g1
                  rw [← eB] at g2
                  exact (congrArg ((xa_up M1 17 (M1 5 (M1 8 m)) (xa_w32 (x + 1))) 17) eB.symm).trans (s1.2.1 g1 g2)) (fun g1 g2 => by
                  have g1 : F (M 5 (M 8 m)) = x := g1
                  have g2 : F (M 5 (M 7 m)) = x + 1 := g2
                  rw [← eB] at g1
                  rw [← eA] at g2
                  exact (congrArg ((xa_up (xa_up M1 17 (M1 5 (M1 8 m)) (xa_w32 (x + 1))) 17 (M1 5 (M1 7 m)) (xa_w32 (x + 1))) 17) eA.symm).trans (s2.2.1 g1 g2))) (fun q j hq => by first | exact hk q j hq | exact (xa_up_ne (fun e => hq e.1)).trans (hk q j hq) | exact (xa_up_ne (fun e => hq e.1)).trans ((xa_up_ne (fun e => hq e.1)).trans (hk q j hq))) (by omega)
      have f5 : M1 5 = M 5 := funext (fun j => hk 5 j (by decide))
      have f7 : M1 7 = M 7 := funext (fun j => hk 7 j (by decide))
      have f8 : M1 8 = M 8 := funext (fun j => hk 8 j (by decide))
      have f1 : M1 1 10 = M 1 10 := hk 1 10 (by decide)
      refine hgo.1 10 [19, 28] 19 _ _ _ ?_
      refine And.intro ?_ ?_
      · intro (c1 : 10 ≤ x)
        show post none M1
        exact k _ (by rw [show (10 : Int) = x by omega]; exact hK) hk
      · intro (c1 : x < 10)
        show Q 28 [(4, (0, 0, 0, 0, 0)), (3, (0, 0, 0, 10, x)), (2, (0, 0, 0, 9, X)), (1, (2, 1, 0, 0, 0)), (0, (2, 16, 0, 0, 0))] [] M1
        refine hgo.2.1 28 _ [(4, (0, 0, 0, 16, 0)), (3, (0, 0, 0, 9, x)), (2, (0, 0, 0, 9, X)), (1, (2, 1, 0, 0, 0)), (0, (2, 16, 0, 0, 0))] _ _ (xa_subI rfl rfl (fun _ _ _ _ => by omega) (xa_subI rfl rfl (fun _ _ _ _ => by omega) (xa_subI rfl rfl (fun _ _ _ _ => by omega) (xa_subR rfl (xa_subR rfl (xa_sub0)))))) ?_
        exact loop2 17 0 M1 (by omega) (by omega) (by omega) (wy_in (by omega) hK) (fun i i0 i1 => by omega) hk (by omega)
  refine hgo.1 16 [19, 28] 0 _ _ _ ?_
  show xa_C (xl_I b) A h0 _ 77 [(2, 17, 0, 0, 0), (0, 0, (-1), (-1), (-1))] M _
  refine cx_77w ?_
  intro M101 (i1 : ∀ j, 0 ≤ j → j < 10 → M101 17 j = (-1)) (i2 : ∀ q j, ¬ q = 17 → M101 q j = M q j)
  show xa_C (xl_I b) A h0 _ 18 [(2, 17, 0, 0, 0), (0, 0, 0, 9, X), (0, 0, 0, 0, 0)] M101 _
  refine cx_18_17 (show 0 ≤ X ∧ X < 10 by omega) ?_
  show Q 19 [(3, (0, 0, 0, 0, 0)), (0, (2, 16, 0, 0, 0)), (1, (2, 1, 0, 0, 0)), (2, (0, 0, 0, 9, X))] [] (xa_up M101 17 X 0)
  refine hgo.2.1 19 _ [(3, (0, 0, 0, 10, 0)), (2, (0, 0, 0, 9, X)), (1, (2, 1, 0, 0, 0)), (0, (2, 16, 0, 0, 0))] _ _ (xa_subI rfl rfl (fun _ _ _ _ => by omega) (xa_subI rfl rfl (fun _ _ _ _ => by omega) (xa_subR rfl (xa_subR rfl (xa_sub0))))) ?_
  exact loop 11 0 _ (by omega) (by omega) (wy_0 hF0 hL.1.1 hL.1.2.1 (fun a a0 a1 => by
    rw [xw_up]
    split
    · rfl
    · exact i1 a a0 a1)) (fun q j hq => (xa_up_ne (fun e => hq e.1)).trans (i2 q j hq)) (by omega)
theorem cx_79s {b : Bool} {A : Nat → Nat} {h0 : g_H} {d : Nat} {M : xa_M} {post : Option xa_V → xa_M → Prop} {l1 u1 l2 u2 h l : Int} (hn : 0 ≤ M 1 10 ∧ M 1 10 ≤ 16) (hr : ∀ k, 0 ≤ k → k < M 1 10 → (0 ≤ M 7 k ∧ M 7 k < 14) ∧ (0 ≤ M 8 k ∧ M 8 k < 14)) (ha : ∀ w, 0 ≤ w → w < 14 → 0 ≤ M 5 w ∧ M 5 w < 10) (hh : 0 ≤ h ∧ h < 10) (hl : 1 ≤ l ∧ l ≤ 10) (k : ∀ r : Int, ((0 ≤ r ∧ r < M 1 10) ∧ (wp_c (M 5) (M 7) (M 8) (M 17) h l) r ∧ ∀ i, 0 ≤ i → i < r → ¬ (wp_c (M 5) (M 7) (M 8) (M 17) h l) i) ∨ (r = -1 ∧ ∀ i, 0 ≤ i → i < M 1 10 → ¬ (wp_c (M 5) (M 7) (M 8) (M 17) h l) i) → post (some (0, 0, (-1), 15, r)) M) : xa_C (xl_I b) A h0 (d + 3) 79 [(2, 16, 0, 0, 0), (2, 1, 0, 0, 0), (0, 0, l1, u1, h), (0, 0, l2, u2, l)] M post := by
  refine xa_C_arg [(2, 16, 0, 0, 0), (2, 1, 0, 0, 0), (0, 0, 0, 9, h), (0, 0, 1, 10, l)] (xa_svR (xa_svR (xa_svI (fun _ _ _ _ => by omega) (xa_svI (fun _ _ _ _ => by omega) xa_sv0)))) (xa_C_wk ?_)
  refine xa_meth (Q0 := (7, 1, false, 0, 0, 10)) (by decide +kernel) ⟨rfl, rfl⟩ (full := s_c_79) rfl rfl ?_
  intro hM hv Q hgo
  have loop : ∀ (n : Nat) (m : Int), 0 ≤ m → m ≤ M 1 10 → (∀ i, 0 ≤ i → i < m → ¬ (wp_c (M 5) (M 7) (M 8) (M 17) h l) i) → 16 - m < (n : Int) → Q 3 [(4, (0, 0, 0, 16, m)), (3, (0, 0, 1, 10, l)), (2, (0, 0, 0, 9, h)), (1, (2, 1, 0, 0, 0)), (0, (2, 16, 0, 0, 0))] [] M := by
    intro n
    induction n with
    | zero => intro m m0 m1 hno hms; omega
    | succ n ih =>
      intro m m0 m1 hno hms
      refine hgo.1 45 [3] 3 _ _ _ ?_
      refine And.intro ?_ ?_
      · intro (c1 : (M 1 10) ≤ m)
        show xa_wk post (some (0, 0, (-1), (-1), (-1))) M
        exact xa_wkI (-1) rfl (fun _ _ => by omega) (k (-1) (Or.inr ⟨rfl, fun i i0 i1 => hno i i0 (by omega)⟩))
      · intro (c1 : m < (M 1 10))
        have r9 := hr m m0 (by omega)
        have a7 := ha (M 7 m) r9.1.1 r9.1.2
        have a8 := ha (M 8 m) r9.2.1 r9.2.2
        show xa_C (xl_I b) A h0 _ 40 [(2, 1, 0, 0, 0), (0, 0, 0, 16, m)] M _
        refine cx_40_1 (show 0 ≤ m ∧ m < 16 by omega) ?_
        show xa_C (xl_I b) A h0 _ 37 [(2, 1, 0, 0, 0), (0, 0, (-2147483648), 2147483647, M 7 m)] M _
        refine cx_37_1 (show 0 ≤ (M 7 m) ∧ (M 7 m) < 14 by omega) ?_
        show xa_C (xl_I b) A h0 _ 41 [(2, 1, 0, 0, 0), (0, 0, 0, 16, m)] M _
        refine cx_41_1 (show 0 ≤ m ∧ m < 16 by omega) ?_
        show xa_C (xl_I b) A h0 _ 37 [(2, 1, 0, 0, 0), (0, 0, (-2147483648), 2147483647, M 8 m)] M _
        refine cx_37_1 (show 0 ≤ (M 8 m) ∧ (M 8 m) < 14 by omega) ?_
        refine And.intro ?_ ?_
        · intro (c2 : ¬ (M 5 (M 7 m)) = h)
          refine And.intro ?_ ?_
          · intro (c3 : ¬ (M 5 (M 8 m)) = h)
            show Q 3 [(4, (0, 0, 1, 17, m + 1)), (6, (0, 0, (-2147483648), 2147483647, M 5 (M 8 m))), (5, (0, 0, (-2147483648), 2147483647, M 5 (M 7 m))), (3, (0, 0, 1, 10, l)), (2, (0, 0, 0, 9, h)), (1, (2, 1, 0, 0, 0)), (0, (2, 16, 0, 0, 0))] [] M
            refine hgo.2.1 3 _ [(4, (0, 0, 0, 16, m + 1)), (3, (0, 0, 1, 10, l)), (2, (0, 0, 0, 9, h)), (1, (2, 1, 0, 0, 0)), (0, (2, 16, 0, 0, 0))] _ _ (xa_subI rfl rfl (fun _ _ _ _ => by omega) (xa_subI rfl rfl (fun _ _ _ _ => by omega) (xa_subI rfl rfl (fun _ _ _ _ => by omega) (xa_subR rfl (xa_subR rfl (xa_sub0)))))) ?_
            exact ih (m + 1) (by omega) (by omega) (fun i i0 i1 => by
              by_cases e : i = m
              · rw [e]
                unfold wp_c
                omega
              · exact hno i i0 (by omega)) (by omega)
          · intro (c3 : (M 5 (M 8 m)) = h)
            show xa_C (xl_I b) A h0 _ 23 [(2, 17, 0, 0, 0), (0, 0, (-2147483648), 2147483647, M 5 (M 7 m))] M _
            refine cx_23_17 (show 0 ≤ (M 5 (M 7 m)) ∧ (M 5 (M 7 m)) < 10 by omega) ?_
            refine And.intro ?_ ?_
            · intro (c4 : ¬ (M 17 (M 5 (M 7 m))) = (l - 1))
              show Q 3 [(4, (0, 0, 1, 17, m + 1)), (6, (0, 0, (-2147483648), 2147483647, M 5 (M 8 m))), (5, (0, 0, (-2147483648), 2147483647, M 5 (M 7 m))), (3, (0, 0, 1, 10, l)), (2, (0, 0, 0, 9, h)), (1, (2, 1, 0, 0, 0)), (0, (2, 16, 0, 0, 0))] [] M
              refine hgo.2.1 3 _ [(4, (0, 0, 0, 16, m + 1)), (3, (0, 0, 1, 10, l)), (2, (0, 0, 0, 9, h)), (1, (2, 1, 0, 0, 0)), (0, (2, 16, 0, 0, 0))] _ _ (xa_subI rfl rfl (fun _ _ _ _ => by omega) (xa_subI rfl rfl (fun _ _ _ _ => by omega) (xa_subI rfl rfl (fun _ _ _ _ => by omega) (xa_subR rfl (xa_subR rfl (xa_sub0)))))) ?_
              exact ih (m + 1) (by omega) (by omega) (fun i i0 i1 => by
                by_cases e : i = m
                · rw [e]
                  unfold wp_c
                  omega
                · exact hno i i0 (by omega)) (by omega)
            · intro (c4 : (M 17 (M 5 (M 7 m))) = (l - 1))
              show xa_wk post (some (0, 0, 0, 16, m)) M
              exact xa_wkI m rfl (fun _ _ => by omega) (k m (Or.inl ⟨⟨m0, by omega⟩, by unfold wp_c; omega, hno⟩))
        · intro (c2 : (M 5 (M 7 m)) = h)
          show xa_C (xl_I b) A h0 _ 23 [(2, 17, 0, 0, 0), (0, 0, (-2147483648), 2147483647, M 5 (M 8 m))] M _
          refine cx_23_17 (show 0 ≤ (M 5 (M 8 m)) ∧ (M 5 (M 8 m)) < 10 by omega) ?_
          refine And.intro ?_ ?_
          · intro (c5 : ¬ (M 17 (M 5 (M 8 m))) = (l - 1))
            refine And.intro ?_ ?_
            · intro (c6 : ¬ (M 5 (M 8 m)) = h)
              show Q 3 [(4, (0, 0, 1, 17, m + 1)), (6, (0, 0, (-2147483648), 2147483647, M 5 (M 8 m))), (5, (0, 0, (-2147483648), 2147483647, M 5 (M 7 m))), (3, (0, 0, 1, 10, l)), (2, (0, 0, 0, 9, h)), (1, (2, 1, 0, 0, 0)), (0, (2, 16, 0, 0, 0))] [] M
              refine hgo.2.1 3 _ [(4, (0, 0, 0, 16, m + 1)), (3, (0, 0, 1, 10, l)), (2, (0, 0, 0, 9, h)), (1, (2, 1, 0, 0, 0)), (0, (2, 16, 0, 0, 0))] _ _ (xa_subI rfl rfl (fun _ _ _ _ => by omega) (xa_subI rfl rfl (fun _ _ _ _ => by omega) (xa_subI rfl rfl (fun _ _ _ _ => by omega) (xa_subR rfl (xa_subR rfl (xa_sub0)))))) ?_
              exact ih (m + 1) (by omega) (by omega) (fun i i0 i1 => by
                by_cases e : i = m
                · rw [e]
                  unfold wp_c
                  omega
                · exact hno i i0 (by omega)) (by omega)
            · intro (c6 : (M 5 (M 8 m)) = h)
              show xa_C (xl_I b) A h0 _ 23 [(2, 17, 0, 0, 0), (0, 0, (-2147483648), 2147483647, M 5 (M 7 m))] M _
              refine cx_23_17 (show 0 ≤ (M 5 (M 7 m)) ∧ (M 5 (M 7 m)) < 10 by omega) ?_
              refine And.intro ?_ ?_
              · intro (c7 : ¬ (M 17 (M 5 (M 7 m))) = (l - 1))
                show Q 3 [(4, (0, 0, 1, 17, m + 1)), (6, (0, 0, (-2147483648), 2147483647, M 5 (M 8 m))), (5, (0, 0, (-2147483648), 2147483647, M 5 (M 7 m))), (3, (0, 0, 1, 10, l)), (2, (0, 0, 0, 9, h)), (1, (2, 1, 0, 0, 0)), (0, (2, 16, 0, 0, 0))] [] M
                refine hgo.2.1 3 _ [(4, (0, 0, 0, 16, m + 1)), (3, (0, 0, 1, 10, l)), (2, (0, 0, 0, 9, h)), (1, (2, 1, 0, 0, 0)), (0, (2, 16, 0, 0, 0))] _ _ (xa_subI rfl rfl (fun _ _ _ _ => by omega) (xa_subI rfl rfl (fun _ _ _ _ => by omega) (xa_subI rfl rfl (fun _ _ _ _ => by omega) (xa_subR rfl (xa_subR rfl (xa_sub0)))))) ?_
                exact ih (m + 1) (by omega) (by omega) (fun i i0 i1 => by
                  by_cases e : i = m
                  · rw [e]
                    unfold wp_c
                    omega
                  · exact hno i i0 (by omega)) (by omega)
              · intro (c7 : (M 17 (M 5 (M 7 m))) = (l - 1))
                show xa_wk post (some (0, 0, 0, 16, m)) M
                exact xa_wkI m rfl (fun _ _ => by omega) (k m (Or.inl ⟨⟨m0, by omega⟩, by unfold wp_c; omega, hno⟩))
          · intro (c5 : (M 17 (M 5 (M 8 m))) = (l - 1))
            show xa_wk post (some (0, 0, 0, 16, m)) M
            exact xa_wkI m rfl (fun _ _ => by omega) (k m (Or.inl ⟨⟨m0, by omega⟩, by unfold wp_c; omega, hno⟩))
  refine hgo.1 7 [3] 0 _ _ _ ?_
  show Q 3 [(4, (0, 0, 0, 0, 0)), (0, (2, 16, 0, 0, 0)), (1, (2, 1, 0, 0, 0)), (2, (0, 0, 0, 9, h)), (3, (0, 0, 1, 10, l))] [] M
  refine hgo.2.1 3 _ [(4, (0, 0, 0, 16, 0)), (3, (0, 0, 1, 10, l)), (2, (0, 0, 0, 9, h)), (1, (2, 1, 0, 0, 0)), (0, (2, 16, 0, 0, 0))] _ _ (xa_subI rfl rfl (fun _ _ _ _ => by omega) (xa_subI rfl rfl (fun _ _ _ _ => by omega) (xa_subI rfl rfl (fun _ _ _ _ => by omega) (xa_subR rfl (xa_subR rfl (xa_sub0)))))) ?_
  exact loop 17 0 (by omega) (by omega) (fun i i0 i1 => by omega) (by omega)
theorem cx_80s {b : Bool} {A : Nat → Nat} {h0 : g_H} {d : Nat} {M : xa_M} {post : Option xa_V → xa_M → Prop} {l1 u1 l2 u2 m h : Int} (hn : 0 ≤ M 1 10 ∧ M 1 10 ≤ 16) (hr : ∀ k, 0 ≤ k → k < M 1 10 → (0 ≤ M 7 k ∧ M 7 k < 14) ∧ (0 ≤ M 8 k ∧ M 8 k < 14)) (ha : ∀ w, 0 ≤ w → w < 14 → 0 ≤ M 5 w ∧ M 5 w < 10) (hm : 0 ≤ m ∧ m < M 1 10) (hh : 0 ≤ h ∧ h < 10) (k : ∀ r : Int, (M 5 (M 7 m) = h ∧ r = M 7 m) ∨ (¬ M 5 (M 7 m) = h ∧ M 5 (M 8 m) = h ∧ r = M 8 m) ∨ (¬ M 5 (M 7 m) = h ∧ ¬ M 5 (M 8 m) = h ∧ r = -1) → post (some (0, 0, (-1), 13, r)) M) : xa_C (xl_I b) A h0 (d + 3) 80 [(2, 1, 0, 0, 0), (0, 0, l1, u1, m), (0, 0, l2, u2, h)] M post := by
  refine xa_C_arg [(2, 1, 0, 0, 0), (0, 0, 0, 15, m), (0, 0, 0, 9, h)] (xa_svR (xa_svI (fun _ _ _ _ => by omega) (xa_svI (fun _ _ _ _ => by omega) xa_sv0))) (xa_C_wk ?_)
  refine xa_meth (Q0 := (3, 1, false, 0, 0, 1)) (by decide +kernel) ⟨rfl, rfl⟩ (full := s_c_80) rfl rfl ?_
  intro hM hv Q hgo
  have m0 := hm.1
  have r9 := hr m m0 (by omega)
  have a7 := ha (M 7 m) r9.1.1 r9.1.2
  have a8 := ha (M 8 m) r9.2.1 r9.2.2
  refine hgo.1 23 [] 0 _ _ _ ?_
  show xa_C (xl_I b) A h0 _ 40 [(2, 1, 0, 0, 0), (0, 0, 0, 15, m)] M _
  refine cx_40_1 (show 0 ≤ m ∧ m < 16 by omega) ?_
  show xa_C (xl_I b) A h0 _ 37 [(2, 1, 0, 0, 0), (0, 0, (-2147483648), 2147483647, M 7 m)] M _
  refine cx_37_1 (show 0 ≤ (M 7 m) ∧ (M 7 m) < 14 by omega) ?_
  refine And.intro ?_ ?_
  · intro (c1 : ¬ (M 5 (M 7 m)) = h)
    show xa_C (xl_I b) A h0 _ 41 [(2, 1, 0, 0, 0), (0, 0, 0, 15, m)] M _
    refine cx_41_1 (show 0 ≤ m ∧ m < 16 by omega) ?_
    show xa_C (xl_I b) A h0 _ 37 [(2, 1, 0, 0, 0), (0, 0, (-2147483648), 2147483647, M 8 m)] M _
    refine cx_37_1 (show 0 ≤ (M 8 m) ∧ (M 8 m) < 14 by omega) ?_
    refine And.intro ?_ ?_
    · intro (c2 : ¬ (M 5 (M 8 m)) = h)
      show xa_wk post (some (0, 0, (-1), (-1), (-1))) M
      exact xa_wkI _ rfl (fun _ _ => by omega) (k _ (by omega))
    · intro (c2 : (M 5 (M 8 m)) = h)
      show xa_C (xl_I b) A h0 _ 41 [(2, 1, 0, 0, 0), (0, 0, 0, 15, m)] M _
      refine cx_41_1 (show 0 ≤ m ∧ m < 16 by omega) ?_
      show xa_wk post (some (0, 0, (-2147483648), 2147483647, M 8 m)) M
      exact xa_wkI _ rfl (fun _ _ => by omega) (k _ (by omega))
  · intro (c1 : (M 5 (M 7 m)) = h)
    show xa_C (xl_I b) A h0 _ 40 [(2, 1, 0, 0, 0), (0, 0, 0, 15, m)] M _
    refine cx_40_1 (show 0 ≤ m ∧ m < 16 by omega) ?_
    show xa_wk post (some (0, 0, (-2147483648), 2147483647, M 7 m)) M
    exact xa_wkI _ rfl (fun _ _ => by omega) (k _ (by omega))
theorem cx_18_18 {b : Bool} {A : Nat → Nat} {h0 : g_H} {d : Nat} {M : xa_M} {post : Option xa_V → xa_M → Prop} {l1 u1 l2 u2 : Int} {i v : Int} (h1 : 0 ≤ i ∧ i < 10) (k1 : post none (xa_up M 18 i v)) : xa_C (xl_I b) A h0 (d + 1) 18 [(2, 18, 0, 0, 0), (0, 0, l1, u1, i), (0, 0, l2, u2, v)] M post := by
  refine xa_C_arg [(2, 18, 0, 0, 0), (0, 0, (-2147483648), 2147483647, i), (0, 0, (-2147483648), 2147483647, v)] (xa_svR (xa_svI (fun _ _ _ _ => by omega) (xa_svI (fun _ _ _ _ => by omega) xa_sv0))) ?_
  refine xa_meth (Q0 := (3, 0, false, 0, 0, 11)) (by decide +kernel) ⟨rfl, rfl⟩ (full := s_c_18) rfl rfl ?_
  intro hM hv Q hgo
  refine hgo.1 15 [] 0 _ _ _ ?_
  refine And.intro ?_ ?_
  · intro (c1 : i < 0)
    show post none M
    exact absurd h1 (by omega)
  · intro (c1 : 0 ≤ i)
    refine And.intro ?_ ?_
    · intro (c2 : 10 ≤ i)
      show post none M
      exact absurd h1 (by omega)
    · intro (c2 : i < 10)
      refine And.intro (show 0 ≤ i ∧ i < 10 by omega) ?_
      show post none (xa_up M 18 i v)
      exact k1
theorem cx_18_19 {b : Bool} {A : Nat → Nat} {h0 : g_H} {d : Nat} {M : xa_M} {post : Option xa_V → xa_M → Prop} {l1 u1 l2 u2 : Int} {i v : Int} (h1 : 0 ≤ i ∧ i < 10) (k1 : post none (xa_up M 19 i v)) : xa_C (xl_I b) A h0 (d + 1) 18 [(2, 19, 0, 0, 0), (0, 0, l1, u1, i), (0, 0, l2, u2, v)] M post := by
  refine xa_C_arg [(2, 19, 0, 0, 0), (0, 0, (-2147483648), 2147483647, i), (0, 0, (-2147483648), 2147483647, v)] (xa_svR (xa_svI (fun _ _ _ _ => by omega) (xa_svI (fun _ _ _ _ => by omega) xa_sv0))) ?_
  refine xa_meth (Q0 := (3, 0, false, 0, 0, 11)) (by decide +kernel) ⟨rfl, rfl⟩ (full := s_c_18) rfl rfl ?_
  intro hM hv Q hgo
  refine hgo.1 15 [] 0 _ _ _ ?_
  refine And.intro ?_ ?_
  · intro (c1 : i < 0)
    show post none M
    exact absurd h1 (by omega)
  · intro (c1 : 0 ≤ i)
    refine And.intro ?_ ?_
    · intro (c2 : 10 ≤ i)
      show post none M
      exact absurd h1 (by omega)
    · intro (c2 : i < 10)
      refine And.intro (show 0 ≤ i ∧ i < 10 by omega) ?_
      show post none (xa_up M 19 i v)
      exact k1
theorem cx_18_20 {b : Bool} {A : Nat → Nat} {h0 : g_H} {d : Nat} {M : xa_M} {post : Option xa_V → xa_M → Prop} {l1 u1 l2 u2 : Int} {i v : Int} (h1 : 0 ≤ i ∧ i < 10) (k1 : post none (xa_up M 20 i v)) : xa_C (xl_I b) A h0 (d + 1) 18 [(2, 20, 0, 0, 0), (0, 0, l1, u1, i), (0, 0, l2, u2, v)] M post := by
  refine xa_C_arg [(2, 20, 0, 0, 0), (0, 0, (-2147483648), 2147483647, i), (0, 0, (-2147483648), 2147483647, v)] (xa_svR (xa_svI (fun _ _ _ _ => by omega) (xa_svI (fun _ _ _ _ => by omega) xa_sv0))) ?_
  refine xa_meth (Q0 := (3, 0, false, 0, 0, 11)) (by decide +kernel) ⟨rfl, rfl⟩ (full := s_c_18) rfl rfl ?_
  intro hM hv Q hgo
  refine hgo.1 15 [] 0 _ _ _ ?_
  refine And.intro ?_ ?_
  · intro (c1 : i < 0)
    show post none M
    exact absurd h1 (by omega)
  · intro (c1 : 0 ≤ i)
    refine And.intro ?_ ?_
    · intro (c2 : 10 ≤ i)
      show post none M
      exact absurd h1 (by omega)
    · intro (c2 : i < 10)
      refine And.intro (show 0 ≤ i ∧ i < 10 by omega) ?_
      show post none (xa_up M 20 i v)
      exact k1
theorem cx_75s {b : Bool} {A : Nat → Nat} {h0 : g_H} {d : Nat} {M : xa_M} {post : Option xa_V → xa_M → Prop} {l1 u1 X : Int} {F : Int → Int} (hL : wy_L (M 1 10) (fun i => M 5 (M 7 i)) (fun i => M 5 (M 8 i)) F X) (hX : 0 ≤ X ∧ X < 10) (hn : 0 ≤ M 1 10 ∧ M 1 10 ≤ 16) (hr : ∀ k, 0 ≤ k → k < M 1 10 → (0 ≤ M 7 k ∧ M 7 k < 14) ∧ (0 ≤ M 8 k ∧ M 8 k < 14)) (ha : ∀ w, 0 ≤ w → w < 14 → 0 ≤ M 5 w ∧ M 5 w < 10) (hF9 : 0 < F 0) (k : ∀ (r : Int) (M1 : xa_M), (F 0 < 99 → r = 1 ∧ M1 16 4 = F 0 ∧ (wp_Q (M 1 10) (M 5) (M 7) (M 8) F (F 0) (M1 18) (M1 19) (M1 20) (F 0))) → (99 ≤ F 0 → r = 0) → (∀ q j, ¬ q = 16 → ¬ q = 17 → ¬ q = 18 → ¬ q = 19 → ¬ q = 20 → M1 q j = M q j) → post (some (0, 0, 0, 1, r)) M1) : xa_C (xl_I b) A h0 (d + 4) 75 [(2, 16, 0, 0, 0), (2, 1, 0, 0, 0), (0, 0, l1, u1, X)] M post := by
  refine xa_C_arg [(2, 16, 0, 0, 0), (2, 1, 0, 0, 0), (0, 0, 0, 9, X)] (xa_svR (xa_svR (xa_svI (fun _ _ _ _ => by omega) xa_sv0))) (xa_C_wk ?_)
  refine xa_meth (Q0 := (8, 2, false, 0, 0, 10)) (by decide +kernel) ⟨rfl, rfl⟩ (full := s_c_75) rfl rfl ?_
  intro hM hv Q hgo
  have hF0 : ∀ a, 0 ≤ a → a < 10 → 0 ≤ F a := fun a a0 a1 => by
    by_cases e : a = X
    · rw [e, hL.1.1]
      exact Int.le_refl _
    · have := hL.1.2.1 a a0 a1 e
      omega
  have hFt : F 0 < 99 → F 0 ≤ 10 := fun h => (hL.1.2.2 0 (by decide) (by decide) h).1
  have loop : ∀ (M2 : xa_M), (∀ q j, ¬ q = 17 → M2 q j = M q j) → (∀ a, 0 ≤ a → a < 10 → (F a < 99 → M2 17 a = F a) ∧ (99 ≤ F a → M2 17 a = -1)) → ∀ (n : Nat) (he lf : Int) (M1 : xa_M), 0 ≤ he ∧ he < 10 → -1 ≤ lf ∧ lf ≤ 10 → (∀ q j, ¬ q = 16 → ¬ q = 18 → ¬ q = 19 → ¬ q = 20 → M1 q j = M2 q j) → (0 ≤ M1 16 4 ∧ M1 16 4 ≤ 10 ∧ ((F 0 < 99 ∧ M1 16 4 + lf = F 0 ∧ 0 ≤ lf) ∨ (99 ≤ F 0 ∧ lf = -1 ∧ M1 16 4 = 0))) → (0 ≤ lf → F he = lf) → he = wp_h (M 5) (M1 20) (M1 16 4) → (wp_Q (M 1 10) (M 5) (M 7) (M 8) F (F 0) (M1 18) (M1 19) (M1 20) (M1 16 4)) → lf + 1 < (n : Int) → Q 23 [(3, (0, 0, 0, 9, he)), (4, (0, 0, (-1), 10, lf)), (1, (2, 1, 0, 0, 0)), (0, (2, 16, 0, 0, 0))] [] M1 := by
    intro M2 hk2 hE n
    induction n with
    | zero => intro he lf M1 h9 l9 hk hi hlf hHe hQ hms; omega
    | succ n ih =>
      intro he lf M1 h9 l9 hk hi hlf hHe hQ hms
      have hF00 := hF0 0 (by decide) (by decide)
      have f1 : M1 1 10 = M 1 10 := (hk 1 10 (by decide) (by decide) (by decide) (by decide)).trans (hk2 1 10 (by decide))
      have f5 : M1 5 = M 5 := funext (fun j => (hk 5 j (by decide) (by decide) (by decide) (by decide)).trans (hk2 5 j (by decide)))
      have f7 : M1 7 = M 7 := funext (fun j => (hk 7 j (by decide) (by decide) (by decide) (by decide)).trans (hk2 7 j (by decide)))
      have f8 : M1 8 = M 8 := funext (fun j => (hk 8 j (by decide) (by decide) (by decide) (by decide)).trans (hk2 8 j (by decide)))
      have f17 : M1 17 = M2 17 := funext (fun j => hk 17 j (by decide) (by decide) (by decide) (by decide))
      have hr1 : ∀ k, 0 ≤ k → k < M1 1 10 → (0 ≤ M1 7 k ∧ M1 7 k < 14) ∧ (0 ≤ M1 8 k ∧ M1 8 k < 14) := by rw [f1, f7, f8]; exact hr
      have ha1 : ∀ w, 0 ≤ w → w < 14 → 0 ≤ M1 5 w ∧ M1 5 w < 10 := by rw [f5]; exact ha
      have hCF : 1 ≤ lf → ∀ i, 0 ≤ i → i < M 1 10 → (wp_c (M 5) (M 7) (M 8) (M1 17) he lf i ↔ wp_c (M 5) (M 7) (M 8) F he lf i) := fun hl i i0 i1 => by
        have g := hr i i0 i1
        have a7 := ha _ g.1.1 g.1.2
        have a8 := ha _ g.2.1 g.2.2
        have z7 := hE _ a7.1 a7.2
        have z8 := hE _ a8.1 a8.2
        have w7 := hF0 _ a7.1 a7.2
        have w8 := hF0 _ a8.1 a8.2
        rw [f17]
        unfold wp_c
        omega
      refine hgo.1 58 [23] 23 _ _ _ ?_
      refine And.intro ?_ ?_
      · intro (c1 : lf ≤ 0)
        refine And.intro ?_ ?_
        · intro (c2 : (M1 16 4) ≤ 0)
          show xa_wk post (some (0, 0, 0, 0, 0)) M1
          exact xa_wkI (0) rfl (fun _ _ => by omega) (k _ M1 (fun h => ⟨by omega, by omega, wp_Qe (by omega) hQ⟩) (fun h => by omega) (fun q j h0 h1 h2 h3 h4 => (hk q j h0 h2 h3 h4).trans (hk2 q j h1)))
        · intro (c2 : 0 < (M1 16 4))
          show xa_wk post (some (0, 0, 1, 1, 1)) M1
          exact xa_wkI (1) rfl (fun _ _ => by omega) (k _ M1 (fun h => ⟨by omega, by omega, wp_Qe (by omega) hQ⟩) (fun h => by omega) (fun q j h0 h1 h2 h3 h4 => (hk q j h0 h2 h3 h4).trans (hk2 q j h1)))
      · intro (c1 : 0 < lf)
        have hCF := hCF (by omega)
        have hlf := hlf (by omega)
        show xa_C (xl_I b) A h0 _ 79 [(2, 16, 0, 0, 0), (2, 1, 0, 0, 0), (0, 0, 0, 9, he), (0, 0, (-1), 10, lf)] M1 _
        refine cx_79s (by omega) hr1 ha1 (by omega) (by omega) ?_
        intro r102 (i3 : ((0 ≤ r102 ∧ r102 < M1 1 10) ∧ (wp_c (M1 5) (M1 7) (M1 8) (M1 17) he lf) r102 ∧ ∀ i, 0 ≤ i → i < r102 → ¬ (wp_c (M1 5) (M1 7) (M1 8) (M1 17) he lf) i) ∨ (r102 = -1 ∧ ∀ i, 0 ≤ i → i < M1 1 10 → ¬ (wp_c (M1 5) (M1 7) (M1 8) (M1 17) he lf) i))
        obtain ⟨p0, pc, pno⟩ : (0 ≤ r102 ∧ r102 < M1 1 10) ∧ wp_c (M 5) (M 7) (M 8) F he lf r102 ∧ ∀ i, 0 ≤ i → i < r102 → ¬ wp_c (M 5) (M 7) (M 8) F he lf i := by
          rw [f5, f7, f8, f1] at i3
          have hx := wp_find hL hX hr ha hlf hF9 (by omega) hCF
          rcases i3 with ⟨y1, y2, y3⟩ | ⟨-, y3⟩
          · exact ⟨by rw [f1]; exact y1, (hCF _ y1.1 y1.2).mp y2, fun i i0 i1 hi => y3 i i0 i1 ((hCF i i0 (by omega)).mpr hi)⟩
          · obtain ⟨i, i0, i1, hi⟩ := hx
            exact absurd ((hCF i i0 i1).mpr hi) (y3 i i0 i1)
        have r9 := hr1 r102 p0.1 p0.2
        have a7 := ha1 (M1 7 r102) r9.1.1 r9.1.2
        have a8 := ha1 (M1 8 r102) r9.2.1 r9.2.2
        have gA : M1 5 (M1 7 r102) = he → F (M1 5 (M1 7 r102)) = F he := fun h => by rw [h]
        have gB : M1 5 (M1 8 r102) = he → F (M1 5 (M1 8 r102)) = F he := fun h => by rw [h]
        have gC : M1 7 r102 = M1 8 r102 → M1 5 (M1 7 r102) = M1 5 (M1 8 r102) := fun h => by rw [h]
        have pcA : (M1 5 (M1 7 r102) = he ∧ F (M1 5 (M1 8 r102)) = lf - 1) ∨ (M1 5 (M1 8 r102) = he ∧ F (M1 5 (M1 7 r102)) = lf - 1) := by
          rw [f5, f7, f8]
          exact pc
        show xa_C (xl_I b) A h0 _ 80 [(2, 1, 0, 0, 0), (0, 0, (-1), 15, r102), (0, 0, 0, 9, he)] M1 _
        refine cx_80s (by omega) hr1 ha1 (by omega) (by omega) ?_
        intro r103 (i4 : (M1 5 (M1 7 r102) = he ∧ r103 = M1 7 r102) ∨ (¬ M1 5 (M1 7 r102) = he ∧ M1 5 (M1 8 r102) = he ∧ r103 = M1 8 r102) ∨ (¬ M1 5 (M1 7 r102) = he ∧ ¬ M1 5 (M1 8 r102) = he ∧ r103 = -1))
        show xa_C (xl_I b) A h0 _ 40 [(2, 1, 0, 0, 0), (0, 0, (-1), 15, r102)] M1 _
        refine cx_40_1 (show 0 ≤ r102 ∧ r102 < 16 by omega) ?_
        refine And.intro ?_ ?_
        · intro (c5 : ¬ r103 = (M1 7 r102))
          show xa_C (xl_I b) A h0 _ 40 [(2, 1, 0, 0, 0), (0, 0, (-1), 15, r102)] M1 _
          refine cx_40_1 (show 0 ≤ r102 ∧ r102 < 16 by omega) ?_
          show xa_C (xl_I b) A h0 _ 18 [(2, 18, 0, 0, 0), (0, 0, (-2147483648), 2147483647, M1 16 4), (0, 0, (-1), 15, r102)] M1 _
          refine cx_18_18 (show 0 ≤ (M1 16 4) ∧ (M1 16 4) < 10 by omega) ?_
          show xa_C (xl_I b) A h0 _ 18 [(2, 19, 0, 0, 0), (0, 0, (-2147483648), 2147483647, M1 16 4), (0, 0, (-1), 13, r103)] (xa_up M1 18 (M1 16 4) r102) _
          refine cx_18_19 (show 0 ≤ (M1 16 4) ∧ (M1 16 4) < 10 by omega) ?_
          show xa_C (xl_I b) A h0 _ 18 [(2, 20, 0, 0, 0), (0, 0, (-2147483648), 2147483647, M1 16 4), (0, 0, (-2147483648), 2147483647, M1 7 r102)] (xa_up (xa_up M1 18 (M1 16 4) r102) 19 (M1 16 4) r103) _
          refine cx_18_20 (show 0 ≤ (M1 16 4) ∧ (M1 16 4) < 10 by omega) ?_
          show xa_C (xl_I b) A h0 _ 37 [(2, 1, 0, 0, 0), (0, 0, (-2147483648), 2147483647, M1 7 r102)] (xa_up (xa_up (xa_up (xa_up M1 18 (M1 16 4) r102) 19 (M1 16 4) r103) 20 (M1 16 4) (M1 7 r102)) 16 4 (xa_w32 ((M1 16 4) + 1))) _
          refine cx_37_1 (show 0 ≤ (M1 7 r102) ∧ (M1 7 r102) < 14 by omega) ?_
          show Q 23 [(4, (0, 0, (-2), 9, lf + (-1))), (3, (0, 0, (-2147483648), 2147483647, M1 5 (M1 7 r102))), (7, (0, 0, (-2147483648), 2147483647, M1 7 r102)), (6, (0, 0, (-1), 13, r103)), (5, (0, 0, (-1), 15, r102)), (1, (2, 1, 0, 0, 0)), (0, (2, 16, 0, 0, 0))] [] (xa_up (xa_up (xa_up (xa_up M1 18 (M1 16 4) r102) 19 (M1 16 4) r103) 20 (M1 16 4) (M1 7 r102)) 16 4 (xa_w32 ((M1 16 4) + 1)))
          have g9 : xa_w32 ((M1 16 4) + 1) = M1 16 4 + 1 := xa_w32_id (by omega) (by omega)
          have q4 : (xa_up (xa_up (xa_up (xa_up M1 18 (M1 16 4) r102) 19 (M1 16 4) r103) 20 (M1 16 4) (M1 7 r102)) 16 4 (xa_w32 ((M1 16 4) + 1))) 16 4 = M1 16 4 + 1 := (xa_up_eq).trans g9
          have hq : (wp_Q (M 1 10) (M 5) (M 7) (M 8) F (F 0) ((xa_up (xa_up (xa_up (xa_up M1 18 (M1 16 4) r102) 19 (M1 16 4) r103) 20 (M1 16 4) (M1 7 r102)) 16 4 (xa_w32 ((M1 16 4) + 1))) 18) ((xa_up (xa_up (xa_up (xa_up M1 18 (M1 16 4) r102) 19 (M1 16 4) r103) 20 (M1 16 4) (M1 7 r102)) 16 4 (xa_w32 ((M1 16 4) + 1))) 19) ((xa_up (xa_up (xa_up (xa_up M1 18 (M1 16 4) r102) 19 (M1 16 4) r103) 20 (M1 16 4) (M1 7 r102)) 16 4 (xa_w32 ((M1 16 4) + 1))) 20) (M1 16 4 + 1)) := by
            refine wp_Qs (p := r102) (dr := r103) (dn := M1 7 r102) hQ (by omega) (fun j hj => ⟨(xa_up_ne (by omega)).trans ((xa_up_ne (by omega)).trans ((xa_up_ne (by omega)).trans (xa_up_ne (by omega)))), (xa_up_ne (by omega)).trans ((xa_up_ne (by omega)).trans ((xa_up_ne (by omega)).trans (xa_up_ne (by omega)))), (xa_up_ne (by omega)).trans ((xa_up_ne (by omega)).trans ((xa_up_ne (by omega)).trans (xa_up_ne (by omega))))⟩) ((xa_up_ne (by omega)).trans ((xa_up_ne (by omega)).trans ((xa_up_ne (by omega)).trans (xa_up_eq)))) ((xa_up_ne (by omega)).trans ((xa_up_ne (by omega)).trans (xa_up_eq))) ((xa_up_ne (by omega)).trans (xa_up_eq)) ?_
            rw [← hHe, show F 0 - M1 16 4 = lf by omega]
            refine ⟨⟨p0.1, by omega⟩, pc, pno, ?_⟩
            rw [← f5, ← f7, ← f8]
            omega
          have hHe2 : M1 5 (M1 7 r102) = wp_h (M 5) ((xa_up (xa_up (xa_up (xa_up M1 18 (M1 16 4) r102) 19 (M1 16 4) r103) 20 (M1 16 4) (M1 7 r102)) 16 4 (xa_w32 ((M1 16 4) + 1))) 20) (M1 16 4 + 1) := by
            rw [wp_hs (by omega), show M1 16 4 + 1 - 1 = M1 16 4 by omega, show (xa_up (xa_up (xa_up (xa_up M1 18 (M1 16 4) r102) 19 (M1 16 4) r103) 20 (M1 16 4) (M1 7 r102)) 16 4 (xa_w32 ((M1 16 4) + 1))) 20 (M1 16 4) = M1 7 r102 from (xa_up_ne (by omega)).trans (xa_up_eq), f5]
          have hlf2 : F (M1 5 (M1 7 r102)) = lf + (-1) := by omega
          refine hgo.2.1 23 _ [(3, (0, 0, 0, 9, M1 5 (M1 7 r102))), (4, (0, 0, (-1), 10, lf + (-1))), (1, (2, 1, 0, 0, 0)), (0, (2, 16, 0, 0, 0))] _ _ (xa_subI rfl rfl (fun _ _ _ _ => by omega) (xa_subI rfl rfl (fun _ _ _ _ => by omega) (xa_subR rfl (xa_subR rfl (xa_sub0))))) ?_
          exact ih _ _ _ (by omega) (by omega) (fun q j h1 h2 h3 h4 => (xa_up_ne (by omega)).trans ((xa_up_ne (by omega)).trans ((xa_up_ne (by omega)).trans ((xa_up_ne (by omega)).trans (hk q j h1 h2 h3 h4))))) (by rw [q4]; omega) (fun _ => hlf2) (by rw [q4]; exact hHe2) (by rw [q4]; exact hq) (by omega)
        · intro (c5 : r103 = (M1 7 r102))
          show xa_C (xl_I b) A h0 _ 41 [(2, 1, 0, 0, 0), (0, 0, (-1), 15, r102)] M1 _
          refine cx_41_1 (show 0 ≤ r102 ∧ r102 < 16 by omega) ?_
          show xa_C (xl_I b) A h0 _ 18 [(2, 18, 0, 0, 0), (0, 0, (-2147483648), 2147483647, M1 16 4), (0, 0, (-1), 15, r102)] M1 _
          refine cx_18_18 (show 0 ≤ (M1 16 4) ∧ (M1 16 4) < 10 by omega) ?_
          show xa_C (xl_I b) A h0 _ 18 [(2, 19, 0, 0, 0), (0, 0, (-2147483648), 2147483647, M1 16 4), (0, 0, (-1), 13, r103)] (xa_up M1 18 (M1 16 4) r102) _
          refine cx_18_19 (show 0 ≤ (M1 16 4) ∧ (M1 16 4) < 10 by omega) ?_
          show xa_C (xl_I b) A h0 _ 18 [(2, 20, 0, 0, 0), (0, 0, (-2147483648), 2147483647, M1 16 4), (0, 0, (-2147483648), 2147483647, M1 8 r102)] (xa_up (xa_up M1 18 (M1 16 4) r102) 19 (M1 16 4) r103) _
          refine cx_18_20 (show 0 ≤ (M1 16 4) ∧ (M1 16 4) < 10 by omega) ?_
          show xa_C (xl_I b) A h0 _ 37 [(2, 1, 0, 0, 0), (0, 0, (-2147483648), 2147483647, M1 8 r102)] (xa_up (xa_up (xa_up (xa_up M1 18 (M1 16 4) r102) 19 (M1 16 4) r103) 20 (M1 16 4) (M1 8 r102)) 16 4 (xa_w32 ((M1 16 4) + 1))) _
          refine cx_37_1 (show 0 ≤ (M1 8 r102) ∧ (M1 8 r102) < 14 by omega) ?_
          show Q 23 [(4, (0, 0, (-2), 9, lf + (-1))), (3, (0, 0, (-2147483648), 2147483647, M1 5 (M1 8 r102))), (7, (0, 0, (-2147483648), 2147483647, M1 8 r102)), (6, (0, 0, (-1), 13, r103)), (5, (0, 0, (-1), 15, r102)), (1, (2, 1, 0, 0, 0)), (0, (2, 16, 0, 0, 0))] [] (xa_up (xa_up (xa_up (xa_up M1 18 (M1 16 4) r102) 19 (M1 16 4) r103) 20 (M1 16 4) (M1 8 r102)) 16 4 (xa_w32 ((M1 16 4) + 1)))
          have g9 : xa_w32 ((M1 16 4) + 1) = M1 16 4 + 1 := xa_w32_id (by omega) (by omega)
          have q4 : (xa_up (xa_up (xa_up (xa_up M1 18 (M1 16 4) r102) 19 (M1 16 4) r103) 20 (M1 16 4) (M1 8 r102)) 16 4 (xa_w32 ((M1 16 4) + 1))) 16 4 = M1 16 4 + 1 := (xa_up_eq).trans g9
          have hq : (wp_Q (M 1 10) (M 5) (M 7) (M 8) F (F 0) ((xa_up (xa_up (xa_up (xa_up M1 18 (M1 16 4) r102) 19 (M1 16 4) r103) 20 (M1 16 4) (M1 8 r102)) 16 4 (xa_w32 ((M1 16 4) + 1))) 18) ((xa_up (xa_up (xa_up (xa_up M1 18 (M1 16 4) r102) 19 (M1 16 4) r103) 20 (M1 16 4) (M1 8 r102)) 16 4 (xa_w32 ((M1 16 4) + 1))) 19) ((xa_up (xa_up (xa_up (xa_up M1 18 (M1 16 4) r102) 19 (M1 16 4) r103) 20 (M1 16 4) (M1 8 r102)) 16 4 (xa_w32 ((M1 16 4) + 1))) 20) (M1 16 4 + 1)) := by
            refine wp_Qs (p := r102) (dr := r103) (dn := M1 8 r102) hQ (by omega) (fun j hj => ⟨(xa_up_ne (by omega)).trans ((xa_up_ne (by omega)).trans ((xa_up_ne (by omega)).trans (xa_up_ne (by omega)))), (xa_up_ne (by omega)).trans ((xa_up_ne (by omega)).trans ((xa_up_ne (by omega)).trans (xa_up_ne (by omega)))), (xa_up_ne (by omega)).trans ((xa_up_ne (by omega)).trans ((xa_up_ne (by omega)).trans (xa_up_ne (by omega))))⟩) ((xa_up_ne (by omega)).trans ((xa_up_ne (by omega)).trans ((xa_up_ne (by omega)).trans (xa_up_eq)))) ((xa_up_ne (by omega)).trans ((xa_up_ne (by omega)).trans (xa_up_eq))) ((xa_up_ne (by omega)).trans (xa_up_eq)) ?_
            rw [← hHe, show F 0 - M1 16 4 = lf by omega]
            refine ⟨⟨p0.1, by omega⟩, pc, pno, ?_⟩
            rw [← f5, ← f7, ← f8]
            omega
          have hHe2 : M1 5 (M1 8 r102) = wp_h (M 5) ((xa_up (xa_up (xa_up (xa_up M1 18 (M1 16 4) r102) 19 (M1 16 4) r103) 20 (M1 16 4) (M1 8 r102)) 16 4 (xa_w32 ((M1 16 4) + 1))) 20) (M1 16 4 + 1) := by
            rw [wp_hs (by omega), show M1 16 4 + 1 - 1 = M1 16 4 by omega, show (xa_up (xa_up (xa_up (xa_up M1 18 (M1 16 4) r102) 19 (M1 16 4) r103) 20 (M1 16 4) (M1 8 r102)) 16 4 (xa_w32 ((M1 16 4) + 1))) 20 (M1 16 4) = M1 8 r102 from (xa_up_ne (by omega)).trans (xa_up_eq), f5]
          have hlf2 : F (M1 5 (M1 8 r102)) = lf + (-1) := by omega
          refine hgo.2.1 23 _ [(3, (0, 0, 0, 9, M1 5 (M1 8 r102))), (4, (0, 0, (-1), 10, lf + (-1))), (1, (2, 1, 0, 0, 0)), (0, (2, 16, 0, 0, 0))] _ _ (xa_subI rfl rfl (fun _ _ _ _ => by omega) (xa_subI rfl rfl (fun _ _ _ _ => by omega) (xa_subR rfl (xa_subR rfl (xa_sub0))))) ?_
          exact ih _ _ _ (by omega) (by omega) (fun q j h1 h2 h3 h4 => (xa_up_ne (by omega)).trans ((xa_up_ne (by omega)).trans ((xa_up_ne (by omega)).trans ((xa_up_ne (by omega)).trans (hk q j h1 h2 h3 h4))))) (by rw [q4]; omega) (fun _ => hlf2) (by rw [q4]; exact hHe2) (by rw [q4]; exact hq) (by omega)
  refine hgo.1 19 [23] 0 _ _ _ ?_
  show xa_C (xl_I b) A h0 _ 76 [(2, 16, 0, 0, 0), (2, 1, 0, 0, 0), (0, 0, 0, 9, X)] M _
  refine cx_76w hL hX hn hr ha ?_
  intro M104 (i1 : wy_K F (M104 17) 10) (i2 : ∀ q j, ¬ q = 17 → M104 q j = M q j)
  show xa_C (xl_I b) A h0 _ 23 [(2, 17, 0, 0, 0), (0, 0, 0, 0, 0)] (xa_up M104 16 4 0) _
  refine cx_23_17 (show 0 ≤ 0 ∧ 0 < 10 by omega) ?_
  show Q 23 [(4, (0, 0, (-2147483648), 2147483647, M104 17 0)), (3, (0, 0, 0, 0, 0)), (0, (2, 16, 0, 0, 0)), (1, (2, 1, 0, 0, 0)), (2, (0, 0, 0, 9, X))] [] (xa_up M104 16 4 0)
  have hE : ∀ a, 0 ≤ a → a < 10 → (F a < 99 → M104 17 a = F a) ∧ (99 ≤ F a → M104 17 a = -1) := fun a a0 a1 => wy_end i1 a0 a1 (hF0 a a0 a1) (fun h => (hL.1.2.2 a a0 a1 h).1)
  have hE0 := hE 0 (by decide) (by decide)
  have l0 := (i1 0 (by decide) (by decide)).1
  refine hgo.2.1 23 _ [(3, (0, 0, 0, 9, 0)), (4, (0, 0, (-1), 10, M104 17 0)), (1, (2, 1, 0, 0, 0)), (0, (2, 16, 0, 0, 0))] _ _ (xa_subI rfl rfl (fun _ _ _ _ => by omega) (xa_subI rfl rfl (fun _ _ _ _ => by omega) (xa_subR rfl (xa_subR rfl (xa_sub0))))) ?_
  exact loop M104 i2 hE 12 0 (M104 17 0) _ (by omega) (by omega) (fun q j h1 h2 h3 h4 => xa_up_ne (by omega)) (by rw [xa_up_eq]; omega) (fun h => by omega) (by rw [xa_up_eq]; exact (wp_h0 (Int.le_refl 0)).symm) (by rw [xa_up_eq]; exact fun k k0 k1 => by omega) (by omega)
theorem wr_mk {M M1 : xa_M} {x3 x5 x9 x10 : Int} (e66 : M1 66 x5 = M 66 x5) (e67 : M1 67 x5 = M 67 x5) (eA : xw_A M x5 = M1 64 (M1 66 x5)) (eB : xw_B M x5 = M1 64 (M1 67 x5)) (h5 : 0 ≤ x5 ∧ x5 < M 60 6) (hno : ∀ i, 0 ≤ i → i < x5 → ¬ wp_c (M 64) (M 66) (M 67) (M1 78) x3 (M1 78 x3) i) (hc : (M1 64 (M1 66 x5) = x3 ∧ M1 78 (M1 64 (M1 67 x5)) = M1 78 x3 - 1) ∨ (M1 64 (M1 67 x5) = x3 ∧ M1 78 (M1 64 (M1 66 x5)) = M1 78 x3 - 1)) (hd : (M1 64 (M1 66 x5) = x3 ∧ x9 = M1 66 x5 ∧ x10 = M1 67 x5) ∨ (¬ M1 64 (M1 66 x5) = x3 ∧ x9 = M1 67 x5 ∧ x10 = M1 66 x5)) : wp_S (M 60 6) (M 64) (M 66) (M 67) (M1 78) x3 (M1 78 x3) x5 x9 x10 := by
  rw [← eA, ← eB] at hc
  rw [← eA, e66, e67] at hd
  exact ⟨h5, hc, hno, hd⟩
