-- fittings in their order (the search of fit; for what hangs on taken)
set_option maxRecDepth 20000
/-- the place of a tuple in the order, by its first n teeth -/
def fs_rk (L H V : Int → Int) : Nat → Int
  | 0 => 0
  | n + 1 => fs_rk L H V n * (H n - L n + 1) + (V n - L n)
/-- how many tuples there are -/
def fs_pr (L H : Int → Int) : Nat → Int
  | 0 => 1
  | n + 1 => fs_pr L H n * (H n - L n + 1)
def fs_in (L H V : Int → Int) (n : Nat) : Prop := ∀ i : Int, 0 ≤ i → i < n → L i ≤ V i ∧ V i ≤ H i
theorem fs_in_s {L H V : Int → Int} {n : Nat} (h : fs_in L H V (n + 1)) : fs_in L H V n := fun i i0 i1 => h i i0 (by omega)
theorem fs_rk_e {L H V V' : Int → Int} (n : Nat) : (∀ i : Int, 0 ≤ i → i < n → V' i = V i) → fs_rk L H V' n = fs_rk L H V n := by
  induction n with
  | zero => intro _; rfl
  | succ n ih =>
    intro h
    show fs_rk L H V' n * (H n - L n + 1) + (V' n - L n) = fs_rk L H V n * (H n - L n + 1) + (V n - L n)
    rw [ih (fun i i0 i1 => h i i0 (by omega)), h n (by omega) (by omega)]
theorem fs_pr_b {L H : Int → Int} (n : Nat) : (∀ i : Int, 0 ≤ i → i < n → L i ≤ H i) → 1 ≤ fs_pr L H n := by
  induction n with
  | zero => intro _; exact Int.le_refl 1
  | succ n ih =>
    intro h
    have a := ih (fun i i0 i1 => h i i0 (by omega))
    have b := h n (by omega) (by omega)
    have m := Int.mul_le_mul a (show (1 : Int) ≤ H n - L n + 1 by omega) (by decide) (show 0 ≤ fs_pr L H n by omega)
    rw [Int.one_mul] at m
    exact m
theorem fs_rk_b {L H V : Int → Int} (n : Nat) : fs_in L H V n → 0 ≤ fs_rk L H V n ∧ fs_rk L H V n < fs_pr L H n := by
  induction n with
  | zero => intro _; exact ⟨Int.le_refl 0, show (0 : Int) < 1 by decide⟩
  | succ n ih =>
    intro h
    obtain ⟨a, b⟩ := ih (fs_in_s h)
    obtain ⟨c, d⟩ := h n (by omega) (by omega)
    show 0 ≤ fs_rk L H V n * (H n - L n + 1) + (V n - L n) ∧ fs_rk L H V n * (H n - L n + 1) + (V n - L n) < fs_pr L H n * (H n - L n + 1)
    have p1 : 0 ≤ fs_rk L H V n * (H n - L n + 1) := Int.mul_nonneg a (by omega)
    have p2 : fs_rk L H V n * (H n - L n + 1) ≤ (fs_pr L H n - 1) * (H n - L n + 1) := Int.mul_le_mul_of_nonneg_right (by omega) (by omega)
    rw [Int.sub_mul, Int.one_mul] at p2
    omega
/-- the next tuple -/
theorem fs_succ {L H V V' : Int → Int} {x : Nat} (hlo : ∀ i : Int, 0 ≤ i → i < x → V' i = V i) (hx : V' x = V x + 1) (n : Nat) : x < n → (∀ i : Int, (x : Int) < i → i < n → V i = H i ∧ V' i = L i) → fs_rk L H V' n = fs_rk L H V n + 1 := by
  induction n with
  | zero => intro h _; omega
  | succ n ih =>
    intro h hh
    show fs_rk L H V' n * (H n - L n + 1) + (V' n - L n) = fs_rk L H V n * (H n - L n + 1) + (V n - L n) + 1
    by_cases e : x = n
    · rw [← e, fs_rk_e x hlo, hx]
      omega
    · have g := hh n (by omega) (by omega)
      rw [ih (by omega) (fun i i0 i1 => hh i i0 (by omega)), g.1, g.2, Int.add_mul, Int.one_mul]
      omega
theorem fs_last {L H V : Int → Int} (n : Nat) : (∀ i : Int, 0 ≤ i → i < n → V i = H i) → fs_rk L H V n + 1 = fs_pr L H n := by
  induction n with
  | zero => intro _; rfl
  | succ n ih =>
    intro h
    show fs_rk L H V n * (H n - L n + 1) + (V n - L n) + 1 = fs_pr L H n * (H n - L n + 1)
    rw [h n (by omega) (by omega), ← ih (fun i i0 i1 => h i i0 (by omega)), Int.add_mul, Int.one_mul]
    omega
theorem fs_first {L H V : Int → Int} (n : Nat) : (∀ i : Int, 0 ≤ i → i < n → V i = L i) → fs_rk L H V n = 0 := by
  induction n with
  | zero => intro _; rfl
  | succ n ih =>
    intro h
    show fs_rk L H V n * (H n - L n + 1) + (V n - L n) = 0
    rw [h n (by omega) (by omega), ih (fun i i0 i1 => h i i0 (by omega)), Int.zero_mul]
    omega
theorem fs_dv {q q' t t' s : Int} (t0 : 0 ≤ t) (t1 : t < s) (u0 : 0 ≤ t') (u1 : t' < s) (h : q * s + t = q' * s + t') : q = q' ∧ t = t' := by
  rcases Int.lt_or_le q q' with c | c
  · have m : (q + 1) * s ≤ q' * s := Int.mul_le_mul_of_nonneg_right (by omega) (by omega)
    rw [Int.add_mul, Int.one_mul] at m
    omega
  · rcases Int.lt_or_le q' q with c2 | c2
    · have m : (q' + 1) * s ≤ q * s := Int.mul_le_mul_of_nonneg_right (by omega) (by omega)
      rw [Int.add_mul, Int.one_mul] at m
      omega
    · have e : q = q' := by omega
      rw [e] at h
      exact ⟨e, by omega⟩
theorem fs_inj {L H V V' : Int → Int} (n : Nat) : fs_in L H V n → fs_in L H V' n → fs_rk L H V n = fs_rk L H V' n → ∀ i : Int, 0 ≤ i → i < n → V i = V' i := by
  induction n with
  | zero => intro _ _ _ i i0 i1; omega
  | succ n ih =>
    intro h h' e i i0 i1
    have a := h n (by omega) (by omega)
    have b := h' n (by omega) (by omega)
    have e : fs_rk L H V n * (H n - L n + 1) + (V n - L n) = fs_rk L H V' n * (H n - L n + 1) + (V' n - L n) := e
    obtain ⟨e1, e2⟩ := fs_dv (by omega) (by omega) (by omega) (by omega) e
    by_cases c : i = n
    · rw [c]
      omega
    · exact ih (fs_in_s h) (fs_in_s h') e1 i i0 (by omega)
/-- the product of the teeth that drive -/
def fs_u (R V : Int → Int) : Nat → Int
  | 0 => 1
  | n + 1 => fs_u R V n * (if 0 < R n then V n else 1)
/-- of those driven -/
def fs_d (R V : Int → Int) : Nat → Int
  | 0 => 1
  | n + 1 => fs_d R V n * (if R n < 0 then V n else 1)
theorem fs_u1 {R V : Int → Int} {n : Nat} : fs_u R V (n + 1) = fs_u R V n * (if 0 < R n then V n else 1) := rfl
theorem fs_d1 {R V : Int → Int} {n : Nat} : fs_d R V (n + 1) = fs_d R V n * (if R n < 0 then V n else 1) := rfl
theorem fs_u_e {R V V' : Int → Int} (n : Nat) : (∀ i : Int, 0 ≤ i → i < n → V' i = V i) → fs_u R V' n = fs_u R V n := by
  induction n with
  | zero => intro _; rfl
  | succ n ih =>
    intro h
    rw [fs_u1, fs_u1, ih (fun i i0 i1 => h i i0 (by omega)), h n (by omega) (by omega)]
theorem fs_d_e {R V V' : Int → Int} (n : Nat) : (∀ i : Int, 0 ≤ i → i < n → V' i = V i) → fs_d R V' n = fs_d R V n := by
  induction n with
  | zero => intro _; rfl
  | succ n ih =>
    intro h
    rw [fs_d1, fs_d1, ih (fun i i0 i1 => h i i0 (by omega)), h n (by omega) (by omega)]
/-- the tuple at place k fits -/
def fs_F (L H R : Int → Int) (s : Nat) (a b : Int) (k : Int) : Prop := ∃ V : Int → Int, fs_in L H V s ∧ fs_rk L H V s = k ∧ fs_u R V s * a = fs_d R V s * b
theorem fs_Fi {L H R V : Int → Int} {s : Nat} {a b : Int} (hV : fs_in L H V s) : fs_F L H R s a b (fs_rk L H V s) ↔ fs_u R V s * a = fs_d R V s * b := by
  constructor
  · rintro ⟨V', h1, h2, h3⟩
    have e := fs_inj s h1 hV h2
    rw [fs_u_e s e, fs_d_e s e] at h3
    exact h3
  · intro h
    exact ⟨V, hV, rfl, h⟩
/-- how many fit ahead of a place -/
noncomputable def fs_c (F : Int → Prop) : Nat → Int
  | 0 => 0
  | k + 1 => fs_c F k + @ite Int (F (k : Int)) (Classical.propDecidable _) 1 0
theorem fs_c1 {F : Int → Prop} {k : Nat} (h : F (k : Int)) : fs_c F (k + 1) = fs_c F k + 1 := by
  show fs_c F k + @ite Int (F (k : Int)) (Classical.propDecidable _) 1 0 = _
  rw [if_pos h]
theorem fs_c0 {F : Int → Prop} {k : Nat} (h : ¬ F (k : Int)) : fs_c F (k + 1) = fs_c F k := by
  show fs_c F k + @ite Int (F (k : Int)) (Classical.propDecidable _) 1 0 = _
  rw [if_neg h, Int.add_zero]
theorem fs_cn {F : Int → Prop} {a : Nat} (d : Nat) : (∀ k : Nat, a ≤ k → k < a + d → ¬ F (k : Int)) → fs_c F (a + d) = fs_c F a := by
  induction d with
  | zero => intro _; rfl
  | succ d ih =>
    intro h
    rw [show a + (d + 1) = (a + d) + 1 by omega, fs_c0 (h (a + d) (by omega) (by omega)), ih (fun k k0 k1 => h k k0 (by omega))]
theorem fs_cm {F : Int → Prop} {a : Nat} (d : Nat) : fs_c F a ≤ fs_c F (a + d) := by
  induction d with
  | zero => exact Int.le_refl _
  | succ d ih =>
    rw [show a + (d + 1) = (a + d) + 1 by omega]
    by_cases c : F ((a + d : Nat) : Int)
    · rw [fs_c1 c]
      omega
    · rw [fs_c0 c]
      omega
theorem fs_cl {F : Int → Prop} {a b : Nat} (h : a ≤ b) : fs_c F a ≤ fs_c F b := by
  obtain ⟨d, rfl⟩ := Nat.exists_eq_add_of_le h
  exact fs_cm d
theorem fs_cb {F : Int → Prop} (k : Nat) : 0 ≤ fs_c F k ∧ fs_c F k ≤ (k : Int) := by
  induction k with
  | zero => exact ⟨Int.le_refl 0, Int.le_refl 0⟩
  | succ k ih =>
    by_cases c : F (k : Int)
    · rw [fs_c1 c]
      omega
    · rw [fs_c0 c]
      omega
/-- one place alone is the i-th that fits -/
theorem fs_one {F : Int → Prop} {k k' : Nat} (h : F (k : Int)) (h' : F (k' : Int)) (e : fs_c F k = fs_c F k') : k = k' := by
  rcases Nat.lt_or_ge k k' with c | c
  · have m := fs_cl (F := F) (show k + 1 ≤ k' from c)
    rw [fs_c1 h] at m
    omega
  · rcases Nat.lt_or_ge k' k with c2 | c2
    · have m := fs_cl (F := F) (show k' + 1 ≤ k from c2)
      rw [fs_c1 h'] at m
      omega
    · omega
theorem fs_end {F : Int → Prop} {k p : Nat} (h : F (k : Int)) (hk : k < p) : fs_c F k < fs_c F p := by
  have m := fs_cl (F := F) (show k + 1 ≤ p from hk)
  rw [fs_c1 h] at m
  omega
/-- a prefix's tuples: what fits by the last teeth -/
theorem fs_bl {L H R V : Int → Int} {l : Nat} {a b t : Int} (hV : fs_in L H V l) (ht : L l ≤ t ∧ t ≤ H l) : fs_F L H R (l + 1) a b (fs_rk L H V l * (H l - L l + 1) + (t - L l)) ↔ fs_u R V l * (if 0 < R l then t else 1) * a = fs_d R V l * (if R l < 0 then t else 1) * b := by
  obtain ⟨V1, hv, hl⟩ : ∃ V1 : Int → Int, (∀ i : Int, 0 ≤ i → i < l → V1 i = V i) ∧ V1 (l : Int) = t := ⟨fun i => if i = (l : Int) then t else V i, fun i i0 i1 => if_neg (by omega), if_pos rfl⟩
  have hV1 : fs_in L H V1 (l + 1) := fun i i0 i1 => by
    by_cases e : i = (l : Int)
    · rw [e, hl]
      exact ht
    · rw [hv i i0 (by omega)]
      exact hV i i0 (by omega)
  have e1 : fs_rk L H V1 (l + 1) = fs_rk L H V l * (H l - L l + 1) + (t - L l) := by
    show fs_rk L H V1 l * (H l - L l + 1) + (V1 l - L l) = _
    rw [fs_rk_e l hv, hl]
  rw [← e1, fs_Fi hV1, fs_u1, fs_d1, fs_u_e l hv, fs_d_e l hv, hl]
/-- no more than what is missing -/
theorem fs_mi {a b c d m t : Int} (ha : 1 ≤ a) (hb : 1 ≤ b) (hc : 1 ≤ c) (hd : 1 ≤ d) (hg : Int.gcd b c = 1) (ht : 1 ≤ t) (hm : d * t ≤ m) {r : Int} (hr : (¬ b ∣ a ∧ r = 0) ∨ (b ∣ a ∧ m / c < a / b ∧ r = 0) ∨ (b ∣ a ∧ a / b ≤ m / c ∧ ¬ d ∣ a / b * c ∧ r = 0) ∨ (b ∣ a ∧ a / b ≤ m / c ∧ d ∣ a / b * c ∧ r = a / b * c / d)) : d * t * b = a * c ↔ r = t := by
  constructor
  · intro h
    have h1 : b ∣ a * c := ⟨d * t, by rw [← h, Int.mul_comm]⟩
    have h2 : b ∣ a := by
      obtain ⟨a, rfl⟩ := Int.eq_ofNat_of_zero_le (show 0 ≤ a by omega)
      obtain ⟨b, rfl⟩ := Int.eq_ofNat_of_zero_le (show 0 ≤ b by omega)
      obtain ⟨c, rfl⟩ := Int.eq_ofNat_of_zero_le (show 0 ≤ c by omega)
      have g1 : Nat.Coprime b c := hg
      have g2 : b ∣ a * c := Int.ofNat_dvd.mp (by rw [Int.natCast_mul]; exact h1)
      exact Int.ofNat_dvd.mpr (g1.dvd_of_dvd_mul_right g2)
    obtain ⟨k, rfl⟩ := h2
    have e0 : b * k / b = k := Int.mul_ediv_cancel_left k (by omega)
    have e1 : d * t = k * c := by
      have : d * t * b = k * c * b := by rw [h, Int.mul_assoc, Int.mul_comm]
      exact Int.eq_of_mul_eq_mul_right (by omega) this
    rw [e0] at hr
    have h3 : k ≤ m / c := (Int.le_ediv_iff_mul_le (by omega)).mpr (by omega)
    have h4 : d ∣ k * c := ⟨t, e1.symm⟩
    rcases hr with ⟨n1, -⟩ | ⟨-, n2, -⟩ | ⟨-, -, n3, -⟩ | ⟨-, -, -, n4⟩
    · exact absurd (Int.dvd_mul_right b k) n1
    · omega
    · exact absurd h4 n3
    · rw [n4, ← e1]
      exact Int.mul_ediv_cancel_left t (by omega)
  · intro h
    rcases hr with ⟨-, n1⟩ | ⟨-, -, n2⟩ | ⟨-, -, -, n3⟩ | ⟨⟨k, rfl⟩, -, n3, n4⟩
    · omega
    · omega
    · omega
    · have e0 : b * k / b = k := Int.mul_ediv_cancel_left k (by omega)
      rw [e0] at n3 n4
      have e1 : d * r = k * c := by
        rw [n4]
        exact Int.mul_ediv_cancel' n3
      rw [← h, e1, Int.mul_assoc b k c]
      exact Int.mul_comm _ _
/-- a ratio in its least terms tells the same -/
theorem fs_g {g a b x y : Int} (hg : g ≠ 0) : x * (g * a) = y * (g * b) ↔ x * a = y * b := by
  rw [show x * (g * a) = g * (x * a) by rw [← Int.mul_assoc, Int.mul_comm x g, Int.mul_assoc], show y * (g * b) = g * (y * b) by rw [← Int.mul_assoc, Int.mul_comm y g, Int.mul_assoc]]
  exact ⟨fun h => Int.eq_of_mul_eq_mul_left hg h, fun h => by rw [h]⟩
-- who drives and is driven on the way; how many drive alone
set_option maxRecDepth 20000
/-- how often w stands among the first n -/
def wq_c (D : Int → Int) (w : Int) : Nat → Int
  | 0 => 0
  | n + 1 => wq_c D w n + (if D (n : Int) = w then 1 else 0)
theorem wq_c1 {D : Int → Int} {w : Int} {n : Nat} : wq_c D w (n + 1) = wq_c D w n + (if D (n : Int) = w then 1 else 0) := rfl
theorem wq_0 {D : Int → Int} {w : Int} (n : Nat) : (∀ i : Int, 0 ≤ i → i < n → ¬ D i = w) → wq_c D w n = 0 := by
  induction n with
  | zero => intro _; rfl
  | succ n ih =>
    intro h
    rw [wq_c1, ih (fun i i0 i1 => h i i0 (by omega)), if_neg (h n (by omega) (by omega))]
    rfl
theorem wq_1 {D : Int → Int} {w : Int} (n : Nat) : (∀ i j : Int, 0 ≤ i → i < n → 0 ≤ j → j < n → D i = D j → i = j) → (∃ i : Int, 0 ≤ i ∧ i < n ∧ D i = w) → wq_c D w n = 1 := by
  induction n with
  | zero =>
    intro _ h
    obtain ⟨i, i0, i1, -⟩ := h
    omega
  | succ n ih =>
    intro hi h
    rw [wq_c1]
    by_cases c : D (n : Int) = w
    · rw [if_pos c, wq_0 n (fun i i0 i1 e => by
        have := hi i n i0 (by omega) (by omega) (by omega) (e.trans c.symm)
        omega)]
      rfl
    · rw [if_neg c, ih (fun i j i0 i1 j0 j1 e => hi i j i0 (by omega) j0 (by omega) e) ?_]
      · rfl
      · obtain ⟨i, i0, i1, e⟩ := h
        by_cases ei : i = n
        · rw [ei] at e
          exact absurd e c
        · exact ⟨i, i0, by omega, e⟩
/-- a sum over wheels -/
def wq_s (f : Int → Int) : Nat → Int
  | 0 => 0
  | n + 1 => wq_s f n + f (n : Int)
theorem wq_s1 {f : Int → Int} {n : Nat} : wq_s f (n + 1) = wq_s f n + f (n : Int) := rfl
theorem wq_sa {f g : Int → Int} (n : Nat) : wq_s (fun i => f i + g i) n = wq_s f n + wq_s g n := by
  induction n with
  | zero => rfl
  | succ n ih =>
    rw [wq_s1, wq_s1, wq_s1, ih]
    omega
theorem wq_sb {f g : Int → Int} (n : Nat) : wq_s (fun i => f i - g i) n = wq_s f n - wq_s g n := by
  induction n with
  | zero => rfl
  | succ n ih =>
    rw [wq_s1, wq_s1, wq_s1, ih]
    omega
theorem wq_se {f g : Int → Int} (n : Nat) : (∀ i : Int, 0 ≤ i → i < n → f i = g i) → wq_s f n = wq_s g n := by
  induction n with
  | zero => intro _; rfl
  | succ n ih =>
    intro h
    rw [wq_s1, wq_s1, ih (fun i i0 i1 => h i i0 (by omega)), h n (by omega) (by omega)]
theorem wq_sd {v : Int} (m : Nat) : wq_s (fun w => if v = w then 1 else 0) m = if 0 ≤ v ∧ v < m then 1 else 0 := by
  induction m with
  | zero =>
    rw [if_neg (by omega)]
    rfl
  | succ m ih =>
    rw [wq_s1, ih]
    by_cases c : v = (m : Int)
    · rw [if_pos c, if_neg (by omega), if_pos (by omega)]
      rfl
    · rw [if_neg c]
      by_cases c2 : 0 ≤ v ∧ v < m
      · rw [if_pos c2, if_pos (by omega)]
        rfl
      · rw [if_neg c2, if_neg (by omega)]
        rfl
/-- every one of the first n is a wheel: all wheels' counts are n -/
theorem wq_all {D : Int → Int} {m : Nat} (n : Nat) : (∀ i : Int, 0 ≤ i → i < n → 0 ≤ D i ∧ D i < m) → wq_s (fun w => wq_c D w n) m = (n : Int) := by
  induction n with
  | zero =>
    intro _
    have z : ∀ k : Nat, wq_s (fun w => wq_c D w 0) k = 0 := fun k => by
      induction k with
      | zero => rfl
      | succ k ih =>
        rw [wq_s1, ih]
        rfl
    exact z m
  | succ n ih =>
    intro h
    have e : wq_s (fun w => wq_c D w (n + 1)) m = wq_s (fun w => wq_c D w n + (if D (n : Int) = w then 1 else 0)) m := wq_se m (fun i _ _ => rfl)
    rw [e, wq_sa (f := fun w => wq_c D w n) (g := fun w => if D (n : Int) = w then 1 else 0), ih (fun i i0 i1 => h i i0 (by omega)), wq_sd, if_pos (h n (by omega) (by omega))]
    omega
/-- how many of the first n drive alone, are driven alone -/
def wq_p (R : Int → Int) : Nat → Int
  | 0 => 0
  | n + 1 => wq_p R n + (if 0 < R (n : Int) then 1 else 0)
def wq_m (R : Int → Int) : Nat → Int
  | 0 => 0
  | n + 1 => wq_m R n + (if R (n : Int) < 0 then 1 else 0)
theorem wq_p1 {R : Int → Int} {n : Nat} : wq_p R (n + 1) = wq_p R n + (if 0 < R (n : Int) then 1 else 0) := rfl
theorem wq_m1 {R : Int → Int} {n : Nat} : wq_m R (n + 1) = wq_m R n + (if R (n : Int) < 0 then 1 else 0) := rfl
theorem wq_pm {R : Int → Int} (n : Nat) : (∀ i : Int, 0 ≤ i → i < n → -1 ≤ R i ∧ R i ≤ 1) → 0 ≤ wq_p R n ∧ 0 ≤ wq_m R n ∧ wq_p R n + wq_m R n ≤ n ∧ wq_p R n - wq_m R n = wq_s R n := by
  induction n with
  | zero => intro _; exact ⟨Int.le_refl 0, Int.le_refl 0, Int.le_refl 0, rfl⟩
  | succ n ih =>
    intro h
    obtain ⟨a, b, c, d⟩ := ih (fun i i0 i1 => h i i0 (by omega))
    have r := h n (by omega) (by omega)
    rw [wq_p1, wq_m1, wq_s1]
    by_cases c1 : 0 < R (n : Int)
    · rw [if_pos c1, if_neg (by omega)]
      omega
    · rw [if_neg c1]
      by_cases c2 : R (n : Int) < 0
      · rw [if_pos c2]
        omega
      · rw [if_neg c2]
        omega
theorem wq_mo {R : Int → Int} {a b : Nat} (h : a ≤ b) : wq_p R a ≤ wq_p R b ∧ wq_m R a ≤ wq_m R b := by
  obtain ⟨d, rfl⟩ := Nat.exists_eq_add_of_le h
  clear h
  induction d with
  | zero => exact ⟨Int.le_refl _, Int.le_refl _⟩
  | succ d ih =>
    rw [show a + (d + 1) = (a + d) + 1 by omega, wq_p1, wq_m1]
    refine ⟨?_, ?_⟩
    · split <;> omega
    · split <;> omega
/-- products of teeth by how many there are -/
theorem wq_u {R V : Int → Int} (n : Nat) : (∀ i : Int, 0 ≤ i → i < n → 0 ≤ V i ∧ V i ≤ 400) → (0 ≤ fs_u R V n ∧ fs_u R V n ≤ 400 ^ (wq_p R n).toNat) ∧ (0 ≤ fs_d R V n ∧ fs_d R V n ≤ 400 ^ (wq_m R n).toNat) ∧ 0 ≤ wq_p R n ∧ 0 ≤ wq_m R n := by
  induction n with
  | zero => intro _; exact ⟨⟨(by decide : (0 : Int) ≤ 1), Int.le_refl 1⟩, ⟨(by decide : (0 : Int) ≤ 1), Int.le_refl 1⟩, Int.le_refl 0, Int.le_refl 0⟩
  | succ n ih =>
    intro h
    obtain ⟨⟨a1, a2⟩, ⟨b1, b2⟩, c1, c2⟩ := ih (fun i i0 i1 => h i i0 (by omega))
    have v := h n (by omega) (by omega)
    rw [fs_u1, fs_d1, wq_p1, wq_m1]
    refine ⟨?_, ?_, by split <;> omega, by split <;> omega⟩
    · by_cases c : 0 < R (n : Int)
      · rw [if_pos c, if_pos c, show (wq_p R n + 1).toNat = (wq_p R n).toNat + 1 by omega, Int.pow_succ]
        exact ⟨Int.mul_nonneg a1 v.1, Int.mul_le_mul a2 v.2 v.1 (Int.le_trans a1 a2)⟩
      · rw [if_neg c, if_neg c, Int.mul_one, Int.add_zero]
        exact ⟨a1, a2⟩
    · by_cases c : R (n : Int) < 0
      · rw [if_pos c, if_pos c, show (wq_m R n + 1).toNat = (wq_m R n).toNat + 1 by omega, Int.pow_succ]
        exact ⟨Int.mul_nonneg b1 v.1, Int.mul_le_mul b2 v.2 v.1 (Int.le_trans b1 b2)⟩
      · rw [if_neg c, if_neg c, Int.mul_one, Int.add_zero]
        exact ⟨b1, b2⟩
theorem wq_400 : ∀ k : Nat, k < 8 → (400 : Int) ^ k ≤ 1638400000000000000 := by decide +kernel
/-- where as many drive alone as are driven alone no product is too great -/
theorem wq_B {R : Int → Int} {s : Nat} (hs : s ≤ 14) (hR : ∀ i : Int, 0 ≤ i → i < s → -1 ≤ R i ∧ R i ≤ 1) (h0 : wq_s R s = 0) (V : Int → Int) (n : Nat) (hn : n ≤ s) (hV : ∀ i : Int, 0 ≤ i → i < n → 0 ≤ V i ∧ V i ≤ 400) : (0 ≤ fs_u R V n ∧ fs_u R V n ≤ 1638400000000000000) ∧ (0 ≤ fs_d R V n ∧ fs_d R V n ≤ 1638400000000000000) := by
  obtain ⟨a, b, c, d⟩ := wq_pm (R := R) s hR
  obtain ⟨m1, m2⟩ := wq_mo (R := R) hn
  obtain ⟨⟨u1, u2⟩, ⟨d1, d2⟩, p0, q0⟩ := wq_u (R := R) n hV
  exact ⟨⟨u1, Int.le_trans u2 (wq_400 _ (by omega))⟩, ⟨d1, Int.le_trans d2 (wq_400 _ (by omega))⟩⟩
-- the way's axles differ
theorem wp_ax {n L e k : Int} {Ax One Oth F P Dr Dn : Int → Int} (h : wp_Q n Ax One Oth F L P Dr Dn e) (k0 : 0 ≤ k) (k1 : k < e) : Ax (Dr k) = wp_h Ax Dn k ∧ F (Ax (Dn k)) = L - k - 1 := by
  obtain ⟨-, hc, -, hd⟩ := h k k0 k1
  unfold wp_c at hc
  rcases hd with ⟨a, b, c⟩ | ⟨a, b, c⟩
  · rw [b, c]
    refine ⟨a, ?_⟩
    rcases hc with ⟨-, x⟩ | ⟨x, y⟩
    · exact x
    · rw [x, ← a]
      exact y
  · rw [b, c]
    rcases hc with ⟨x, -⟩ | ⟨x, y⟩
    · exact absurd x a
    · exact ⟨x, y⟩
theorem wp_hF {n L e : Int} {Ax One Oth F P Dr Dn : Int → Int} (h : wp_Q n Ax One Oth F L P Dr Dn e) (h0 : F 0 = L) {k : Int} (k0 : 0 ≤ k) (k1 : k ≤ e) : F (wp_h Ax Dn k) = L - k := by
  by_cases c : k ≤ 0
  · rw [wp_h0 c, h0]
    omega
  · rw [wp_hs c, (wp_ax h (k := k - 1) (by omega) (by omega)).2]
    omega
theorem wp_inj {n L e : Int} {Ax One Oth F P Dr Dn : Int → Int} (h : wp_Q n Ax One Oth F L P Dr Dn e) (h0 : F 0 = L) {i j : Int} (i0 : 0 ≤ i) (i1 : i < e) (j0 : 0 ≤ j) (j1 : j < e) : (Dr i = Dr j → i = j) ∧ (Dn i = Dn j → i = j) := by
  refine ⟨fun e1 => ?_, fun e1 => ?_⟩
  · have a := (wp_ax h i0 i1).1
    have b := (wp_ax h j0 j1).1
    have c := wp_hF h h0 i0 (by omega)
    have d := wp_hF h h0 j0 (by omega)
    rw [e1] at a
    rw [← a] at c
    rw [← b] at d
    omega
  · have a := (wp_ax h i0 i1).2
    have b := (wp_ax h j0 j1).2
    rw [e1] at a
    omega
-- the reference's way with its roles: lemmas (behind wy, fw)
set_option maxRecDepth 20000
/-- roles and who is on the way, of the first e steps -/
def wv_R (M1 : xa_M) (Dr Dn : Int → Int) (e : Int) : Prop := ∀ w : Int, 0 ≤ w → w < 14 → M1 82 w = wq_c Dr w e.toNat - wq_c Dn w e.toNat ∧ (M1 83 w = 0 ∨ M1 83 w = 1) ∧ (M1 83 w = 1 ↔ ∃ k : Int, 0 ≤ k ∧ k < e ∧ (Dr k = w ∨ Dn k = w))
theorem wq_cb {D : Int → Int} {w : Int} (n : Nat) : 0 ≤ wq_c D w n ∧ wq_c D w n ≤ (n : Int) := by
  induction n with
  | zero => exact ⟨Int.le_refl 0, Int.le_refl 0⟩
  | succ n ih =>
    rw [wq_c1]
    split <;> omega
theorem wq_ce {D D' : Int → Int} {w : Int} (n : Nat) : (∀ i : Int, 0 ≤ i → i < n → D' i = D i) → wq_c D' w n = wq_c D w n := by
  induction n with
  | zero => intro _; rfl
  | succ n ih =>
    intro h
    rw [wq_c1, wq_c1, ih (fun i i0 i1 => h i i0 (by omega)), h n (by omega) (by omega)]
def wv_P (M : xa_M) (X : Int) (M1 : xa_M) (x : Int) : Prop := wr_L M X M1 ∧ M1 78 0 < 99 ∧ M1 60 29 + M1 78 x = M1 78 0 ∧ ∃ Dr Dn : Int → Int, wp_Q (M 60 6) (M 64) (M 66) (M 67) (M1 78) (M1 78 0) (M1 79) Dr Dn (M1 60 29) ∧ x = wp_h (M 64) Dn (M1 60 29) ∧ wv_R M1 Dr Dn (M1 60 29)
theorem wv_P_0 {M M1 : xa_M} {X : Int} (hL : wr_L M X M1) (h : M1 78 0 < 99) (h0 : M1 60 29 = 0) (hz : ∀ w : Int, 0 ≤ w → w < 14 → M1 82 w = 0 ∧ M1 83 w = 0) : wv_P M X M1 0 := by
  refine ⟨hL, h, by omega, fun _ => 0, fun _ => 0, fun k k0 k1 => by omega, ?_, fun w w0 w1 => ?_⟩
  · rw [h0]
    exact (wp_h0 (Int.le_refl 0)).symm
  · obtain ⟨a, b⟩ := hz w w0 w1
    rw [a, b, h0]
    refine ⟨rfl, Or.inl rfl, fun h => absurd h (by decide), fun ⟨k, k0, k1, _⟩ => ?_⟩
    omega
theorem wv_b {M M1 : xa_M} {X x : Int} (h : wv_P M X M1 x) (h0 : 0 ≤ M1 60 29) (h1 : M1 60 29 ≤ 100) (w : Int) (w0 : 0 ≤ w) (w1 : w < 14) : -100 ≤ M1 82 w ∧ M1 82 w ≤ 100 := by
  obtain ⟨-, -, -, Dr, Dn, -, -, hR⟩ := h
  have a := (hR w w0 w1).1
  have b := wq_cb (D := Dr) (w := w) (M1 60 29).toNat
  have c := wq_cb (D := Dn) (w := w) (M1 60 29).toNat
  omega
/-- both changes of the roles -/
theorem wv_82 {M1 : xa_M} {x y w : Int} (hx : 0 ≤ x ∧ x < 14) (hy : 0 ≤ y ∧ y < 14) (hb : ∀ w : Int, 0 ≤ w → w < 14 → -100 ≤ M1 82 w ∧ M1 82 w ≤ 100) : (xa_up (xa_up M1 82 x (xa_w32 ((M1 82 x) + 1))) 82 y (xa_w32 (((xa_up M1 82 x (xa_w32 ((M1 82 x) + 1))) 82 y) - 1))) 82 w = M1 82 w + (if x = w then 1 else 0) - (if y = w then 1 else 0) := by
  have bx := hb x hx.1 hx.2
  have hby := hb y hy.1 hy.2
  have e1 : xa_w32 ((M1 82 x) + 1) = M1 82 x + 1 := xa_w32_id (by omega) (by omega)
  rw [e1]
  by_cases cy : y = w
  · rw [← cy, xa_up_eq, if_pos rfl]
    by_cases cx : x = y
    · rw [cx, xa_up_eq, if_pos rfl, xa_w32_id (by rw [cx] at bx; omega) (by rw [cx] at bx; omega)]
    · rw [xa_up_ne (by omega), if_neg cx, xa_w32_id (by omega) (by omega)]
      omega
  · rw [xa_up_ne (by omega), if_neg cy]
    by_cases cx : x = w
    · rw [← cx, xa_up_eq, if_pos rfl]
      omega
    · rw [xa_up_ne (by omega), if_neg cx]
      omega
theorem wv_P_s {M M1 M3 : xa_M} {X x x8 p dr dn : Int} (h : wv_P M X M1 x) (h29 : 0 ≤ M1 60 29) (hS : wp_S (M 60 6) (M 64) (M 66) (M 67) (M1 78) x (M1 78 x) p dr dn) (h8 : x8 = M 64 dn) (hd : M1 78 x8 = M1 78 x - 1) (e78 : ∀ j, M3 78 j = M1 78 j) (e29 : M3 60 29 = M1 60 29 + 1) (e79 : M3 79 (M1 60 29) = p) (e79' : ∀ j, ¬ j = M1 60 29 → M3 79 j = M1 79 j) (e82 : ∀ w : Int, M3 82 w = M1 82 w + (if dr = w then 1 else 0) - (if dn = w then 1 else 0)) (e83 : ∀ w : Int, (w = dr ∨ w = dn → M3 83 w = 1) ∧ (¬ (w = dr ∨ w = dn) → M3 83 w = M1 83 w)) : wv_P M X M3 x8 := by
  obtain ⟨h1, h2, h3, Dr, Dn, hQ, hx, hR⟩ := h
  have f78 : M3 78 = M1 78 := funext e78
  have ee : ((M1 60 29).toNat : Int) = M1 60 29 := Int.toNat_of_nonneg h29
  refine ⟨wr_L_k e78 h1, by rw [e78]; exact h2, by rw [e78, e78, e29]; omega, fun j => if j = M1 60 29 then dr else Dr j, fun j => if j = M1 60 29 then dn else Dn j, ?_, ?_, fun w w0 w1 => ?_⟩
  · rw [f78, e29]
    refine wp_Qs (p := p) (dr := dr) (dn := dn) hQ h29 (fun j hj => ⟨e79' j hj, if_neg hj, if_neg hj⟩) e79 (if_pos rfl) (if_pos rfl) ?_
    rw [← hx, show M1 78 0 - M1 60 29 = M1 78 x by omega]
    exact hS
  · rw [e29, wp_hs (by omega), show M1 60 29 + 1 - 1 = M1 60 29 by omega, if_pos rfl]
    exact h8
  · obtain ⟨a, b, c⟩ := hR w w0 w1
    rw [e29, show (M1 60 29 + 1).toNat = (M1 60 29).toNat + 1 by omega, wq_c1, wq_c1, ee, if_pos rfl, if_pos rfl, wq_ce (D := Dr) _ (fun i i0 i1 => if_neg (by omega)), wq_ce (D := Dn) _ (fun i i0 i1 => if_neg (by omega)), e82, a]
    refine ⟨by omega, ?_, ?_⟩
    · by_cases q : w = dr ∨ w = dn
      · exact Or.inr ((e83 w).1 q)
      · rw [(e83 w).2 q]
        exact b
    · constructor
      · intro hq
        by_cases q : w = dr ∨ w = dn
        · refine ⟨M1 60 29, h29, by omega, ?_⟩
          dsimp only
          rw [if_pos rfl, if_pos rfl]
          rcases q with q | q
          · exact Or.inl q.symm
          · exact Or.inr q.symm
        · rw [(e83 w).2 q] at hq
          obtain ⟨k, k0, k1, k2⟩ := c.mp hq
          refine ⟨k, k0, by omega, ?_⟩
          dsimp only
          rw [if_neg (by omega), if_neg (by omega)]
          exact k2
      · rintro ⟨k, k0, k1, k2⟩
        dsimp only at k2
        by_cases q : w = dr ∨ w = dn
        · exact (e83 w).1 q
        · rw [(e83 w).2 q]
          refine c.mpr ⟨k, k0, ?_, ?_⟩
          · by_cases e : k = M1 60 29
            · rw [if_pos e, if_pos e] at k2
              exact absurd (by rcases k2 with k2 | k2; exact Or.inl k2.symm; exact Or.inr k2.symm) q
            · omega
          · by_cases e : k = M1 60 29
            · rw [if_pos e, if_pos e] at k2
              exact absurd (by rcases k2 with k2 | k2; exact Or.inl k2.symm; exact Or.inr k2.symm) q
            · rw [if_neg e, if_neg e] at k2
              exact k2
/-- the whole way with its roles -/
def wv_D (M : xa_M) (X : Int) (M1 : xa_M) : Prop := wr_L M X M1 ∧ M1 78 0 < 99 ∧ M1 60 29 = M1 78 0 ∧ ∃ Dr Dn : Int → Int, wp_Q (M 60 6) (M 64) (M 66) (M 67) (M1 78) (M1 78 0) (M1 79) Dr Dn (M1 78 0) ∧ wv_R M1 Dr Dn (M1 78 0)
theorem wv_PD {M M1 : xa_M} {X x : Int} (h : wv_P M X M1 x) (h0 : M1 78 x = 0) : wv_D M X M1 := by
  obtain ⟨h1, h2, h3, Dr, Dn, hQ, -, hR⟩ := h
  have e : M1 60 29 = M1 78 0 := by omega
  rw [e] at hQ hR
  exact ⟨h1, h2, e, Dr, Dn, hQ, hR⟩
theorem wv_D_k {M M1 M2 : xa_M} {X : Int} (e78 : ∀ j, M2 78 j = M1 78 j) (e79 : ∀ j, M2 79 j = M1 79 j) (e29 : M2 60 29 = M1 60 29) (e82 : ∀ j, M2 82 j = M1 82 j) (e83 : ∀ j, M2 83 j = M1 83 j) (h : wv_D M X M1) : wv_D M X M2 := by
  obtain ⟨h1, h2, h3, Dr, Dn, h4, h5⟩ := h
  refine ⟨wr_L_k e78 h1, by rw [e78]; exact h2, by rw [e78, e29]; exact h3, Dr, Dn, ?_, ?_⟩
  · rw [show M2 78 = M1 78 from funext e78, show M2 79 = M1 79 from funext e79]
    exact h4
  · rw [e78]
    intro w w0 w1
    rw [e82, e83]
    exact h5 w w0 w1
/-- the list of the wheels on the way, so far -/
def wv_W (M1 : xa_M) (x : Int) : Prop := M1 60 32 = wq_s (M1 83) x.toNat ∧ ∀ w : Int, 0 ≤ w → w < x → M1 83 w = 1 → M1 80 (wq_s (M1 83) w.toNat) = w ∧ M1 81 (wq_s (M1 83) w.toNat) = M1 82 w
theorem wv_b01 {M M1 : xa_M} {X : Int} (h : wv_D M X M1) : ∀ w : Int, 0 ≤ w → w < 14 → M1 83 w = 0 ∨ M1 83 w = 1 := by
  obtain ⟨-, -, -, Dr, Dn, -, h5⟩ := h
  exact fun w w0 w1 => (h5 w w0 w1).2.1
theorem wq_sm {f : Int → Int} (m : Nat) : ∀ n : Nat, n ≤ m → (∀ i : Int, 0 ≤ i → i < m → 0 ≤ f i) → wq_s f n ≤ wq_s f m := by
  induction m with
  | zero =>
    intro n hn _
    rw [show n = 0 by omega]
    exact Int.le_refl _
  | succ m ih =>
    intro n hn h
    by_cases e : n = m + 1
    · rw [e]
      exact Int.le_refl _
    · have h1 := ih n (by omega) (fun i i0 i1 => h i i0 (by omega))
      have h2 := h m (by omega) (by omega)
      rw [wq_s1]
      omega
theorem wv_W0 {M1 : xa_M} (h : M1 60 32 = 0) : wv_W M1 0 := ⟨h, fun w w0 w1 => by omega⟩
theorem wv_Wn {M1 : xa_M} {x : Int} (hx : 0 ≤ x) (h : wv_W M1 x) (h0 : M1 83 x = 0) : wv_W M1 (x + 1) := by
  refine ⟨?_, fun w w0 w1 w2 => h.2 w w0 ?_ w2⟩
  · rw [show (x + 1).toNat = x.toNat + 1 by omega, wq_s1, show ((x.toNat : Nat) : Int) = x by omega, h0, h.1]
    omega
  · by_cases e : w = x
    · rw [e, h0] at w2
      omega
    · omega
theorem wv_Wy {M1 M2 : xa_M} {x : Int} (hx : 0 ≤ x) (hx1 : x < 14) (h01 : ∀ w : Int, 0 ≤ w → w < 14 → M1 83 w = 0 ∨ M1 83 w = 1) (h : wv_W M1 x) (h0 : ¬ M1 83 x = 0) (e32 : M2 60 32 = M1 60 32 + 1) (e80 : ∀ j, M2 80 j = if j = M1 60 32 then x else M1 80 j) (e81 : ∀ j, M2 81 j = if j = M1 60 32 then M1 82 x else M1 81 j) (e82 : ∀ j, M2 82 j = M1 82 j) (e83 : ∀ j, M2 83 j = M1 83 j) : wv_W M2 (x + 1) := by
  have h1 : M1 83 x = 1 := by
    rcases h01 x hx hx1 with q | q
    · exact absurd q h0
    · exact q
  have ee : M2 83 = M1 83 := funext e83
  rw [wv_W, ee]
  refine ⟨?_, fun w w0 w1 w2 => ?_⟩
  · rw [show (x + 1).toNat = x.toNat + 1 by omega, wq_s1, show ((x.toNat : Nat) : Int) = x by omega, h1, e32, h.1]
  · rw [e80, e81, e82]
    by_cases e : w = x
    · rw [e, if_pos h.1.symm, if_pos h.1.symm]
      exact ⟨rfl, rfl⟩
    · have hl := wq_sm (f := M1 83) x.toNat (w.toNat + 1) (by omega) (fun i i0 i1 => by
        rcases h01 i i0 (by omega) with q | q
        · rw [q]
          exact Int.le_refl 0
        · rw [q]
          omega)
      rw [wq_s1, show ((w.toNat : Nat) : Int) = w by omega, w2, ← h.1] at hl
      rw [if_neg (by omega), if_neg (by omega)]
      exact h.2 w w0 (by omega) w2
def wv_Q (M : xa_M) (X : Int) (M1 : xa_M) (r : Int) : Prop := wr_L M X M1 ∧ ((r = 1 ∧ wv_D M X M1 ∧ wv_W M1 (M 60 0)) ∨ (r = 0 ∧ 99 ≤ M1 78 0))
