-- fittings in their order (the search of fit; for what hangs on taken)
set_option maxRecDepth 20000
/-- the place of a tuple in the order, by its first n teeth -/
def fs_rk (L H V : Int → Int) : Nat → Int
  | 0 => 0
  | n + 1 => fs_rk L H V n * (H n - L n + 1) + (V n - L n)
/-- how many tuples there are -/
def fs_pr (L H : Int → Int) : Nat → Int
  | 0 => 1
  | n + 1 => fs_pr L H n * (H n - L n + 1)
def fs_in (L H V : Int → Int) (n : Nat) : Prop := ∀ i : Int, 0 ≤ i → i < n → L i ≤ V i ∧ V i ≤ H i
theorem fs_in_s {L H V : Int → Int} {n : Nat} (h : fs_in L H V (n + 1)) : fs_in L H V n := fun i i0 i1 => h i i0 (by omega)
theorem fs_rk_e {L H V V' : Int → Int} (n : Nat) : (∀ i : Int, 0 ≤ i → i < n → V' i = V i) → fs_rk L H V' n = fs_rk L H V n := by
  induction n with
  | zero => intro _; rfl
  | succ n ih =>
    intro h
    show fs_rk L H V' n * (H n - L n + 1) + (V' n - L n) = fs_rk L H V n * (H n - L n + 1) + (V n - L n)
    rw [ih (fun i i0 i1 => h i i0 (by omega)), h n (by omega) (by omega)]
theorem fs_pr_b {L H : Int → Int} (n : Nat) : (∀ i : Int, 0 ≤ i → i < n → L i ≤ H i) → 1 ≤ fs_pr L H n := by
  induction n with
  | zero => intro _; exact Int.le_refl 1
  | succ n ih =>
    intro h
    have a := ih (fun i i0 i1 => h i i0 (by omega))
    have b := h n (by omega) (by omega)
    have m := Int.mul_le_mul a (show (1 : Int) ≤ H n - L n + 1 by omega) (by decide) (show 0 ≤ fs_pr L H n by omega)
    rw [Int.one_mul] at m
    exact m
theorem fs_rk_b {L H V : Int → Int} (n : Nat) : fs_in L H V n → 0 ≤ fs_rk L H V n ∧ fs_rk L H V n < fs_pr L H n := by
  induction n with
  | zero => intro _; exact ⟨Int.le_refl 0, show (0 : Int) < 1 by decide⟩
  | succ n ih =>
    intro h
    obtain ⟨a, b⟩ := ih (fs_in_s h)
    obtain ⟨c, d⟩ := h n (by omega) (by omega)
    show 0 ≤ fs_rk L H V n * (H n - L n + 1) + (V n - L n) ∧ fs_rk L H V n * (H n - L n + 1) + (V n - L n) < fs_pr L H n * (H n - L n + 1)
    have p1 : 0 ≤ fs_rk L H V n * (H n - L n + 1) := Int.mul_nonneg a (by omega)
    have p2 : fs_rk L H V n * (H n - L n + 1) ≤ (fs_pr L H n - 1) * (H n - L n + 1) := Int.mul_le_mul_of_nonneg_right (by omega) (by omega)
    rw [Int.sub_mul, Int.one_mul] at p2
    omega
/-- the next tuple -/
theorem fs_succ {L H V V' : Int → Int} {x : Nat} (hlo : ∀ i : Int, 0 ≤ i → i < x → V' i = V i) (hx : V' x = V x + 1) (n : Nat) : x < n → (∀ i : Int, (x : Int) < i → i < n → V i = H i ∧ V' i = L i) → fs_rk L H V' n = fs_rk L H V n + 1 := by
  induction n with
  | zero => intro h _; omega
  | succ n ih =>
    intro h hh
    show fs_rk L H V' n * (H n - L n + 1) + (V' n - L n) = fs_rk L H V n * (H n - L n + 1) + (V n - L n) + 1
    by_cases e : x = n
    · rw [← e, fs_rk_e x hlo, hx]
      omega
    · have g := hh n (by omega) (by omega)
      rw [ih (by omega) (fun i i0 i1 => hh i i0 (by omega)), g.1, g.2, Int.add_mul, Int.one_mul]
      omega
theorem fs_last {L H V : Int → Int} (n : Nat) : (∀ i : Int, 0 ≤ i → i < n → V i = H i) → fs_rk L H V n + 1 = fs_pr L H n := by
  induction n with
  | zero => intro _; rfl
  | succ n ih =>
    intro h
    show fs_rk L H V n * (H n - L n + 1) + (V n - L n) + 1 = fs_pr L H n * (H n - L n + 1)
    rw [h n (by omega) (by omega), ← ih (fun i i0 i1 => h i i0 (by omega)), Int.add_mul, Int.one_mul]
    omega
theorem fs_first {L H V : Int → Int} (n : Nat) : (∀ i : Int, 0 ≤ i → i < n → V i = L i) → fs_rk L H V n = 0 := by
  induction n with
  | zero => intro _; rfl
  | succ n ih =>
    intro h
    show fs_rk L H V n * (H n - L n + 1) + (V n - L n) = 0
    rw [h n (by omega) (by omega), ih (fun i i0 i1 => h i i0 (by omega)), Int.zero_mul]
    omega
theorem fs_dv {q q' t t' s : Int} (t0 : 0 ≤ t) (t1 : t < s) (u0 : 0 ≤ t') (u1 : t' < s) (h : q * s + t = q' * s + t') : q = q' ∧ t = t' := by
  rcases Int.lt_or_le q q' with c | c
  · have m : (q + 1) * s ≤ q' * s := Int.mul_le_mul_of_nonneg_right (by omega) (by omega)
    rw [Int.add_mul, Int.one_mul] at m
    omega
  · rcases Int.lt_or_le q' q with c2 | c2
    · have m : (q' + 1) * s ≤ q * s := Int.mul_le_mul_of_nonneg_right (by omega) (by omega)
      rw [Int.add_mul, Int.one_mul] at m
      omega
    · have e : q = q' := by omega
      rw [e] at h
      exact ⟨e, by omega⟩
theorem fs_inj {L H V V' : Int → Int} (n : Nat) : fs_in L H V n → fs_in L H V' n → fs_rk L H V n = fs_rk L H V' n → ∀ i : Int, 0 ≤ i → i < n → V i = V' i := by
  induction n with
  | zero => intro _ _ _ i i0 i1; omega
  | succ n ih =>
    intro h h' e i i0 i1
    have a := h n (by omega) (by omega)
    have b := h' n (by omega) (by omega)
    have e : fs_rk L H V n * (H n - L n + 1) + (V n - L n) = fs_rk L H V' n * (H n - L n + 1) + (V' n - L n) := e
    obtain ⟨e1, e2⟩ := fs_dv (by omega) (by omega) (by omega) (by omega) e
    by_cases c : i = n
    · rw [c]
      omega
    · exact ih (fs_in_s h) (fs_in_s h') e1 i i0 (by omega)
/-- the product of the teeth that drive -/
def fs_u (R V : Int → Int) : Nat → Int
  | 0 => 1
  | n + 1 => fs_u R V n * (if 0 < R n then V n else 1)
/-- of those driven -/
def fs_d (R V : Int → Int) : Nat → Int
  | 0 => 1
  | n + 1 => fs_d R V n * (if R n < 0 then V n else 1)
theorem fs_u1 {R V : Int → Int} {n : Nat} : fs_u R V (n + 1) = fs_u R V n * (if 0 < R n then V n else 1) := rfl
theorem fs_d1 {R V : Int → Int} {n : Nat} : fs_d R V (n + 1) = fs_d R V n * (if R n < 0 then V n else 1) := rfl
theorem fs_u_e {R V V' : Int → Int} (n : Nat) : (∀ i : Int, 0 ≤ i → i < n → V' i = V i) → fs_u R V' n = fs_u R V n := by
  induction n with
  | zero => intro _; rfl
  | succ n ih =>
    intro h
    rw [fs_u1, fs_u1, ih (fun i i0 i1 => h i i0 (by omega)), h n (by omega) (by omega)]
theorem fs_d_e {R V V' : Int → Int} (n : Nat) : (∀ i : Int, 0 ≤ i → i < n → V' i = V i) → fs_d R V' n = fs_d R V n := by
  induction n with
  | zero => intro _; rfl
  | succ n ih =>
    intro h
    rw [fs_d1, fs_d1, ih (fun i i0 i1 => h i i0 (by omega)), h n (by omega) (by omega)]
/-- the tuple at place k fits -/
def fs_F (L H R : Int → Int) (s : Nat) (a b : Int) (k : Int) : Prop := ∃ V : Int → Int, fs_in L H V s ∧ fs_rk L H V s = k ∧ fs_u R V s * a = fs_d R V s * b
theorem fs_Fi {L H R V : Int → Int} {s : Nat} {a b : Int} (hV : fs_in L H V s) : fs_F L H R s a b (fs_rk L H V s) ↔ fs_u R V s * a = fs_d R V s * b := by
  constructor
  · rintro ⟨V', h1, h2, h3⟩
    have e := fs_inj s h1 hV h2
    rw [fs_u_e s e, fs_d_e s e] at h3
    exact h3
  · intro h
    exact ⟨V, hV, rfl, h⟩
/-- how many fit ahead of a place -/
noncomputable def fs_c (F : Int → Prop) : Nat → Int
  | 0 => 0
  | k + 1 => fs_c F k + @ite Int (F (k : Int)) (Classical.propDecidable _) 1 0
theorem fs_c1 {F : Int → Prop} {k : Nat} (h : F (k : Int)) : fs_c F (k + 1) = fs_c F k + 1 := by
  show fs_c F k + @ite Int (F (k : Int)) (Classical.propDecidable _) 1 0 = _
  rw [if_pos h]
theorem fs_c0 {F : Int → Prop} {k : Nat} (h : ¬ F (k : Int)) : fs_c F (k + 1) = fs_c F k := by
  show fs_c F k + @ite Int (F (k : Int)) (Classical.propDecidable _) 1 0 = _
  rw [if_neg h, Int.add_zero]
theorem fs_cn {F : Int → Prop} {a : Nat} (d : Nat) : (∀ k : Nat, a ≤ k → k < a + d → ¬ F (k : Int)) → fs_c F (a + d) = fs_c F a := by
  induction d with
  | zero => intro _; rfl
  | succ d ih =>
    intro h
    rw [show a + (d + 1) = (a + d) + 1 by omega, fs_c0 (h (a + d) (by omega) (by omega)), ih (fun k k0 k1 => h k k0 (by omega))]
theorem fs_ca {F : Int → Prop} {a : Nat} (d : Nat) : (∀ k : Nat, a ≤ k → k < a + d → F (k : Int)) → fs_c F (a + d) = fs_c F a + (d : Int) := by
  induction d with
  | zero => intro _; exact (Int.add_zero _).symm
  | succ d ih =>
    intro h
    rw [show a + (d + 1) = (a + d) + 1 by omega, fs_c1 (h (a + d) (by omega) (by omega)), ih (fun k k0 k1 => h k k0 (by omega))]
    omega
theorem fs_cm {F : Int → Prop} {a : Nat} (d : Nat) : fs_c F a ≤ fs_c F (a + d) := by
  induction d with
  | zero => exact Int.le_refl _
  | succ d ih =>
    rw [show a + (d + 1) = (a + d) + 1 by omega]
    by_cases c : F ((a + d : Nat) : Int)
    · rw [fs_c1 c]
      omega
    · rw [fs_c0 c]
      omega
theorem fs_cl {F : Int → Prop} {a b : Nat} (h : a ≤ b) : fs_c F a ≤ fs_c F b := by
  obtain ⟨d, rfl⟩ := Nat.exists_eq_add_of_le h
  exact fs_cm d
theorem fs_cb {F : Int → Prop} (k : Nat) : 0 ≤ fs_c F k ∧ fs_c F k ≤ (k : Int) := by
  induction k with
  | zero => exact ⟨Int.le_refl 0, Int.le_refl 0⟩
  | succ k ih =>
    by_cases c : F (k : Int)
    · rw [fs_c1 c]
      omega
    · rw [fs_c0 c]
      omega
/-- one place alone is the i-th that fits -/
theorem fs_one {F : Int → Prop} {k k' : Nat} (h : F (k : Int)) (h' : F (k' : Int)) (e : fs_c F k = fs_c F k') : k = k' := by
  rcases Nat.lt_or_ge k k' with c | c
  · have m := fs_cl (F := F) (show k + 1 ≤ k' from c)
    rw [fs_c1 h] at m
    omega
  · rcases Nat.lt_or_ge k' k with c2 | c2
    · have m := fs_cl (F := F) (show k' + 1 ≤ k from c2)
      rw [fs_c1 h'] at m
      omega
    · omega
theorem fs_end {F : Int → Prop} {k p : Nat} (h : F (k : Int)) (hk : k < p) : fs_c F k < fs_c F p := by
  have m := fs_cl (F := F) (show k + 1 ≤ p from hk)
  rw [fs_c1 h] at m
  omega
/-- a prefix's tuples: what fits by the last teeth -/
theorem fs_bl {L H R V : Int → Int} {l : Nat} {a b t : Int} (hV : fs_in L H V l) (ht : L l ≤ t ∧ t ≤ H l) : fs_F L H R (l + 1) a b (fs_rk L H V l * (H l - L l + 1) + (t - L l)) ↔ fs_u R V l * (if 0 < R l then t else 1) * a = fs_d R V l * (if R l < 0 then t else 1) * b := by
  obtain ⟨V1, hv, hl⟩ : ∃ V1 : Int → Int, (∀ i : Int, 0 ≤ i → i < l → V1 i = V i) ∧ V1 (l : Int) = t := ⟨fun i => if i = (l : Int) then t else V i, fun i i0 i1 => if_neg (by omega), if_pos rfl⟩
  have hV1 : fs_in L H V1 (l + 1) := fun i i0 i1 => by
    by_cases e : i = (l : Int)
    · rw [e, hl]
      exact ht
    · rw [hv i i0 (by omega)]
      exact hV i i0 (by omega)
  have e1 : fs_rk L H V1 (l + 1) = fs_rk L H V l * (H l - L l + 1) + (t - L l) := by
    show fs_rk L H V1 l * (H l - L l + 1) + (V1 l - L l) = _
    rw [fs_rk_e l hv, hl]
  rw [← e1, fs_Fi hV1, fs_u1, fs_d1, fs_u_e l hv, fs_d_e l hv, hl]
/-- no more than what is missing -/
theorem fs_mi {a b c d m t : Int} (ha : 1 ≤ a) (hb : 1 ≤ b) (hc : 1 ≤ c) (hd : 1 ≤ d) (hg : Int.gcd b c = 1) (ht : 1 ≤ t) (hm : d * t ≤ m) {r : Int} (hr : (¬ b ∣ a ∧ r = 0) ∨ (b ∣ a ∧ m / c < a / b ∧ r = 0) ∨ (b ∣ a ∧ a / b ≤ m / c ∧ ¬ d ∣ a / b * c ∧ r = 0) ∨ (b ∣ a ∧ a / b ≤ m / c ∧ d ∣ a / b * c ∧ r = a / b * c / d)) : d * t * b = a * c ↔ r = t := by
  constructor
  · intro h
    have h1 : b ∣ a * c := ⟨d * t, by rw [← h, Int.mul_comm]⟩
    have h2 : b ∣ a := by
      obtain ⟨a, rfl⟩ := Int.eq_ofNat_of_zero_le (show 0 ≤ a by omega)
      obtain ⟨b, rfl⟩ := Int.eq_ofNat_of_zero_le (show 0 ≤ b by omega)
      obtain ⟨c, rfl⟩ := Int.eq_ofNat_of_zero_le (show 0 ≤ c by omega)
      have g1 : Nat.Coprime b c := hg
      have g2 : b ∣ a * c := Int.ofNat_dvd.mp (by rw [Int.natCast_mul]; exact h1)
      exact Int.ofNat_dvd.mpr (g1.dvd_of_dvd_mul_right g2)
    obtain ⟨k, rfl⟩ := h2
    have e0 : b * k / b = k := Int.mul_ediv_cancel_left k (by omega)
    have e1 : d * t = k * c := by
      have : d * t * b = k * c * b := by rw [h, Int.mul_assoc, Int.mul_comm]
      exact Int.eq_of_mul_eq_mul_right (by omega) this
    rw [e0] at hr
    have h3 : k ≤ m / c := (Int.le_ediv_iff_mul_le (by omega)).mpr (by omega)
    have h4 : d ∣ k * c := ⟨t, e1.symm⟩
    rcases hr with ⟨n1, -⟩ | ⟨-, n2, -⟩ | ⟨-, -, n3, -⟩ | ⟨-, -, -, n4⟩
    · exact absurd (Int.dvd_mul_right b k) n1
    · omega
    · exact absurd h4 n3
    · rw [n4, ← e1]
      exact Int.mul_ediv_cancel_left t (by omega)
  · intro h
    rcases hr with ⟨-, n1⟩ | ⟨-, -, n2⟩ | ⟨-, -, -, n3⟩ | ⟨⟨k, rfl⟩, -, n3, n4⟩
    · omega
    · omega
    · omega
    · have e0 : b * k / b = k := Int.mul_ediv_cancel_left k (by omega)
      rw [e0] at n3 n4
      have e1 : d * r = k * c := by
        rw [n4]
        exact Int.mul_ediv_cancel' n3
      rw [← h, e1, Int.mul_assoc b k c]
      exact Int.mul_comm _ _
/-- a ratio in its least terms tells the same -/
theorem fs_g {g a b x y : Int} (hg : g ≠ 0) : x * (g * a) = y * (g * b) ↔ x * a = y * b := by
  rw [show x * (g * a) = g * (x * a) by rw [← Int.mul_assoc, Int.mul_comm x g, Int.mul_assoc], show y * (g * b) = g * (y * b) by rw [← Int.mul_assoc, Int.mul_comm y g, Int.mul_assoc]]
  exact ⟨fun h => Int.eq_of_mul_eq_mul_left hg h, fun h => by rw [h]⟩
-- who drives and is driven on the way; how many drive alone
set_option maxRecDepth 20000
/-- how often w stands among the first n -/
def wq_c (D : Int → Int) (w : Int) : Nat → Int
  | 0 => 0
  | n + 1 => wq_c D w n + (if D (n : Int) = w then 1 else 0)
theorem wq_c1 {D : Int → Int} {w : Int} {n : Nat} : wq_c D w (n + 1) = wq_c D w n + (if D (n : Int) = w then 1 else 0) := rfl
theorem wq_0 {D : Int → Int} {w : Int} (n : Nat) : (∀ i : Int, 0 ≤ i → i < n → ¬ D i = w) → wq_c D w n = 0 := by
  induction n with
  | zero => intro _; rfl
  | succ n ih =>
    intro h
    rw [wq_c1, ih (fun i i0 i1 => h i i0 (by omega)), if_neg (h n (by omega) (by omega))]
    rfl
theorem wq_1 {D : Int → Int} {w : Int} (n : Nat) : (∀ i j : Int, 0 ≤ i → i < n → 0 ≤ j → j < n → D i = D j → i = j) → (∃ i : Int, 0 ≤ i ∧ i < n ∧ D i = w) → wq_c D w n = 1 := by
  induction n with
  | zero =>
    intro _ h
    obtain ⟨i, i0, i1, -⟩ := h
    omega
  | succ n ih =>
    intro hi h
    rw [wq_c1]
    by_cases c : D (n : Int) = w
    · rw [if_pos c, wq_0 n (fun i i0 i1 e => by
        have := hi i n i0 (by omega) (by omega) (by omega) (e.trans c.symm)
        omega)]
      rfl
    · rw [if_neg c, ih (fun i j i0 i1 j0 j1 e => hi i j i0 (by omega) j0 (by omega) e) ?_]
      · rfl
      · obtain ⟨i, i0, i1, e⟩ := h
        by_cases ei : i = n
        · rw [ei] at e
          exact absurd e c
        · exact ⟨i, i0, by omega, e⟩
/-- a sum over wheels -/
def wq_s (f : Int → Int) : Nat → Int
  | 0 => 0
  | n + 1 => wq_s f n + f (n : Int)
theorem wq_s1 {f : Int → Int} {n : Nat} : wq_s f (n + 1) = wq_s f n + f (n : Int) := rfl
theorem wq_sa {f g : Int → Int} (n : Nat) : wq_s (fun i => f i + g i) n = wq_s f n + wq_s g n := by
  induction n with
  | zero => rfl
  | succ n ih =>
    rw [wq_s1, wq_s1, wq_s1, ih]
    omega
theorem wq_sb {f g : Int → Int} (n : Nat) : wq_s (fun i => f i - g i) n = wq_s f n - wq_s g n := by
  induction n with
  | zero => rfl
  | succ n ih =>
    rw [wq_s1, wq_s1, wq_s1, ih]
    omega
theorem wq_se {f g : Int → Int} (n : Nat) : (∀ i : Int, 0 ≤ i → i < n → f i = g i) → wq_s f n = wq_s g n := by
  induction n with
  | zero => intro _; rfl
  | succ n ih =>
    intro h
    rw [wq_s1, wq_s1, ih (fun i i0 i1 => h i i0 (by omega)), h n (by omega) (by omega)]
theorem wq_sd {v : Int} (m : Nat) : wq_s (fun w => if v = w then 1 else 0) m = if 0 ≤ v ∧ v < m then 1 else 0 := by
  induction m with
  | zero =>
    rw [if_neg (by omega)]
    rfl
  | succ m ih =>
    rw [wq_s1, ih]
    by_cases c : v = (m : Int)
    · rw [if_pos c, if_neg (by omega), if_pos (by omega)]
      rfl
    · rw [if_neg c]
      by_cases c2 : 0 ≤ v ∧ v < m
      · rw [if_pos c2, if_pos (by omega)]
        rfl
      · rw [if_neg c2, if_neg (by omega)]
        rfl
/-- every one of the first n is a wheel: all wheels' counts are n -/
theorem wq_all {D : Int → Int} {m : Nat} (n : Nat) : (∀ i : Int, 0 ≤ i → i < n → 0 ≤ D i ∧ D i < m) → wq_s (fun w => wq_c D w n) m = (n : Int) := by
  induction n with
  | zero =>
    intro _
    have z : ∀ k : Nat, wq_s (fun w => wq_c D w 0) k = 0 := fun k => by
      induction k with
      | zero => rfl
      | succ k ih =>
        rw [wq_s1, ih]
        rfl
    exact z m
  | succ n ih =>
    intro h
    have e : wq_s (fun w => wq_c D w (n + 1)) m = wq_s (fun w => wq_c D w n + (if D (n : Int) = w then 1 else 0)) m := wq_se m (fun i _ _ => rfl)
    rw [e, wq_sa (f := fun w => wq_c D w n) (g := fun w => if D (n : Int) = w then 1 else 0), ih (fun i i0 i1 => h i i0 (by omega)), wq_sd, if_pos (h n (by omega) (by omega))]
    omega
/-- how many of the first n drive alone, are driven alone -/
def wq_p (R : Int → Int) : Nat → Int
  | 0 => 0
  | n + 1 => wq_p R n + (if 0 < R (n : Int) then 1 else 0)
def wq_m (R : Int → Int) : Nat → Int
  | 0 => 0
  | n + 1 => wq_m R n + (if R (n : Int) < 0 then 1 else 0)
theorem wq_p1 {R : Int → Int} {n : Nat} : wq_p R (n + 1) = wq_p R n + (if 0 < R (n : Int) then 1 else 0) := rfl
theorem wq_m1 {R : Int → Int} {n : Nat} : wq_m R (n + 1) = wq_m R n + (if R (n : Int) < 0 then 1 else 0) := rfl
theorem wq_pm {R : Int → Int} (n : Nat) : (∀ i : Int, 0 ≤ i → i < n → -1 ≤ R i ∧ R i ≤ 1) → 0 ≤ wq_p R n ∧ 0 ≤ wq_m R n ∧ wq_p R n + wq_m R n ≤ n ∧ wq_p R n - wq_m R n = wq_s R n := by
  induction n with
  | zero => intro _; exact ⟨Int.le_refl 0, Int.le_refl 0, Int.le_refl 0, rfl⟩
  | succ n ih =>
    intro h
    obtain ⟨a, b, c, d⟩ := ih (fun i i0 i1 => h i i0 (by omega))
    have r := h n (by omega) (by omega)
    rw [wq_p1, wq_m1, wq_s1]
    by_cases c1 : 0 < R (n : Int)
    · rw [if_pos c1, if_neg (by omega)]
      omega
    · rw [if_neg c1]
      by_cases c2 : R (n : Int) < 0
      · rw [if_pos c2]
        omega
      · rw [if_neg c2]
        omega
theorem wq_mo {R : Int → Int} {a b : Nat} (h : a ≤ b) : wq_p R a ≤ wq_p R b ∧ wq_m R a ≤ wq_m R b := by
  obtain ⟨d, rfl⟩ := Nat.exists_eq_add_of_le h
  clear h
  induction d with
  | zero => exact ⟨Int.le_refl _, Int.le_refl _⟩
  | succ d ih =>
    rw [show a + (d + 1) = (a + d) + 1 by omega, wq_p1, wq_m1]
    refine ⟨?_, ?_⟩
    · split <;> omega
    · split <;> omega
/-- products of teeth by how many there are -/
theorem wq_u {R V : Int → Int} (n : Nat) : (∀ i : Int, 0 ≤ i → i < n → 0 ≤ V i ∧ V i ≤ 400) → (0 ≤ fs_u R V n ∧ fs_u R V n ≤ 400 ^ (wq_p R n).toNat) ∧ (0 ≤ fs_d R V n ∧ fs_d R V n ≤ 400 ^ (wq_m R n).toNat) ∧ 0 ≤ wq_p R n ∧ 0 ≤ wq_m R n := by
  induction n with
  | zero => intro _; exact ⟨⟨(by decide : (0 : Int) ≤ 1), Int.le_refl 1⟩, ⟨(by decide : (0 : Int) ≤ 1), Int.le_refl 1⟩, Int.le_refl 0, Int.le_refl 0⟩
  | succ n ih =>
    intro h
    obtain ⟨⟨a1, a2⟩, ⟨b1, b2⟩, c1, c2⟩ := ih (fun i i0 i1 => h i i0 (by omega))
    have v := h n (by omega) (by omega)
    rw [fs_u1, fs_d1, wq_p1, wq_m1]
    refine ⟨?_, ?_, by split <;> omega, by split <;> omega⟩
    · by_cases c : 0 < R (n : Int)
      · rw [if_pos c, if_pos c, show (wq_p R n + 1).toNat = (wq_p R n).toNat + 1 by omega, Int.pow_succ]
        exact ⟨Int.mul_nonneg a1 v.1, Int.mul_le_mul a2 v.2 v.1 (Int.le_trans a1 a2)⟩
      · rw [if_neg c, if_neg c, Int.mul_one, Int.add_zero]
        exact ⟨a1, a2⟩
    · by_cases c : R (n : Int) < 0
      · rw [if_pos c, if_pos c, show (wq_m R n + 1).toNat = (wq_m R n).toNat + 1 by omega, Int.pow_succ]
        exact ⟨Int.mul_nonneg b1 v.1, Int.mul_le_mul b2 v.2 v.1 (Int.le_trans b1 b2)⟩
      · rw [if_neg c, if_neg c, Int.mul_one, Int.add_zero]
        exact ⟨b1, b2⟩
theorem wq_400 : ∀ k : Nat, k < 8 → (400 : Int) ^ k ≤ 1638400000000000000 := by decide +kernel
/-- where as many drive alone as are driven alone no product is too great -/
theorem wq_B {R : Int → Int} {s : Nat} (hs : s ≤ 14) (hR : ∀ i : Int, 0 ≤ i → i < s → -1 ≤ R i ∧ R i ≤ 1) (h0 : wq_s R s = 0) (V : Int → Int) (n : Nat) (hn : n ≤ s) (hV : ∀ i : Int, 0 ≤ i → i < n → 0 ≤ V i ∧ V i ≤ 400) : (0 ≤ fs_u R V n ∧ fs_u R V n ≤ 1638400000000000000) ∧ (0 ≤ fs_d R V n ∧ fs_d R V n ≤ 1638400000000000000) := by
  obtain ⟨a, b, c, d⟩ := wq_pm (R := R) s hR
  obtain ⟨m1, m2⟩ := wq_mo (R := R) hn
  obtain ⟨⟨u1, u2⟩, ⟨d1, d2⟩, p0, q0⟩ := wq_u (R := R) n hV
  exact ⟨⟨u1, Int.le_trans u2 (wq_400 _ (by omega))⟩, ⟨d1, Int.le_trans d2 (wq_400 _ (by omega))⟩⟩
-- the way's axles differ
theorem wp_ax {n L e k : Int} {Ax One Oth F P Dr Dn : Int → Int} (h : wp_Q n Ax One Oth F L P Dr Dn e) (k0 : 0 ≤ k) (k1 : k < e) : Ax (Dr k) = wp_h Ax Dn k ∧ F (Ax (Dn k)) = L - k - 1 := by
  obtain ⟨-, hc, -, hd⟩ := h k k0 k1
  unfold wp_c at hc
  rcases hd with ⟨a, b, c⟩ | ⟨a, b, c⟩
  · rw [b, c]
    refine ⟨a, ?_⟩
    rcases hc with ⟨-, x⟩ | ⟨x, y⟩
    · exact x
    · rw [x, ← a]
      exact y
  · rw [b, c]
    rcases hc with ⟨x, -⟩ | ⟨x, y⟩
    · exact absurd x a
    · exact ⟨x, y⟩
theorem wp_hF {n L e : Int} {Ax One Oth F P Dr Dn : Int → Int} (h : wp_Q n Ax One Oth F L P Dr Dn e) (h0 : F 0 = L) {k : Int} (k0 : 0 ≤ k) (k1 : k ≤ e) : F (wp_h Ax Dn k) = L - k := by
  by_cases c : k ≤ 0
  · rw [wp_h0 c, h0]
    omega
  · rw [wp_hs c, (wp_ax h (k := k - 1) (by omega) (by omega)).2]
    omega
theorem wp_inj {n L e : Int} {Ax One Oth F P Dr Dn : Int → Int} (h : wp_Q n Ax One Oth F L P Dr Dn e) (h0 : F 0 = L) {i j : Int} (i0 : 0 ≤ i) (i1 : i < e) (j0 : 0 ≤ j) (j1 : j < e) : (Dr i = Dr j → i = j) ∧ (Dn i = Dn j → i = j) := by
  refine ⟨fun e1 => ?_, fun e1 => ?_⟩
  · have a := (wp_ax h i0 i1).1
    have b := (wp_ax h j0 j1).1
    have c := wp_hF h h0 i0 (by omega)
    have d := wp_hF h h0 j0 (by omega)
    rw [e1] at a
    rw [← a] at c
    rw [← b] at d
    omega
  · have a := (wp_ax h i0 i1).2
    have b := (wp_ax h j0 j1).2
    rw [e1] at a
    omega
-- the reference's way with its roles: lemmas (behind wy, fw)
set_option maxRecDepth 20000
/-- roles and who is on the way, of the first e steps -/
def wv_R (M1 : xa_M) (Dr Dn : Int → Int) (e : Int) : Prop := ∀ w : Int, 0 ≤ w → w < 14 → M1 82 w = wq_c Dr w e.toNat - wq_c Dn w e.toNat ∧ (M1 83 w = 0 ∨ M1 83 w = 1) ∧ (M1 83 w = 1 ↔ ∃ k : Int, 0 ≤ k ∧ k < e ∧ (Dr k = w ∨ Dn k = w))
theorem wq_cb {D : Int → Int} {w : Int} (n : Nat) : 0 ≤ wq_c D w n ∧ wq_c D w n ≤ (n : Int) := by
  induction n with
  | zero => exact ⟨Int.le_refl 0, Int.le_refl 0⟩
  | succ n ih =>
    rw [wq_c1]
    split <;> omega
theorem wq_ce {D D' : Int → Int} {w : Int} (n : Nat) : (∀ i : Int, 0 ≤ i → i < n → D' i = D i) → wq_c D' w n = wq_c D w n := by
  induction n with
  | zero => intro _; rfl
  | succ n ih =>
    intro h
    rw [wq_c1, wq_c1, ih (fun i i0 i1 => h i i0 (by omega)), h n (by omega) (by omega)]
def wv_P (M : xa_M) (X : Int) (M1 : xa_M) (x : Int) : Prop := wr_L M X M1 ∧ M1 78 0 < 99 ∧ M1 60 29 + M1 78 x = M1 78 0 ∧ ∃ Dr Dn : Int → Int, wp_Q (M 60 6) (M 64) (M 66) (M 67) (M1 78) (M1 78 0) (M1 79) Dr Dn (M1 60 29) ∧ x = wp_h (M 64) Dn (M1 60 29) ∧ wv_R M1 Dr Dn (M1 60 29)
theorem wv_P_0 {M M1 : xa_M} {X : Int} (hL : wr_L M X M1) (h : M1 78 0 < 99) (h0 : M1 60 29 = 0) (hz : ∀ w : Int, 0 ≤ w → w < 14 → M1 82 w = 0 ∧ M1 83 w = 0) : wv_P M X M1 0 := by
  refine ⟨hL, h, by omega, fun _ => 0, fun _ => 0, fun k k0 k1 => by omega, ?_, fun w w0 w1 => ?_⟩
  · rw [h0]
    exact (wp_h0 (Int.le_refl 0)).symm
  · obtain ⟨a, b⟩ := hz w w0 w1
    rw [a, b, h0]
    refine ⟨rfl, Or.inl rfl, fun h => absurd h (by decide), fun ⟨k, k0, k1, _⟩ => ?_⟩
    omega
theorem wv_b {M M1 : xa_M} {X x : Int} (h : wv_P M X M1 x) (h0 : 0 ≤ M1 60 29) (h1 : M1 60 29 ≤ 100) (w : Int) (w0 : 0 ≤ w) (w1 : w < 14) : -100 ≤ M1 82 w ∧ M1 82 w ≤ 100 := by
  obtain ⟨-, -, -, Dr, Dn, -, -, hR⟩ := h
  have a := (hR w w0 w1).1
  have b := wq_cb (D := Dr) (w := w) (M1 60 29).toNat
  have c := wq_cb (D := Dn) (w := w) (M1 60 29).toNat
  omega
/-- both changes of the roles -/
theorem wv_82 {M1 : xa_M} {x y w : Int} (hx : 0 ≤ x ∧ x < 14) (hy : 0 ≤ y ∧ y < 14) (hb : ∀ w : Int, 0 ≤ w → w < 14 → -100 ≤ M1 82 w ∧ M1 82 w ≤ 100) : (xa_up (xa_up M1 82 x (xa_w32 ((M1 82 x) + 1))) 82 y (xa_w32 (((xa_up M1 82 x (xa_w32 ((M1 82 x) + 1))) 82 y) - 1))) 82 w = M1 82 w + (if x = w then 1 else 0) - (if y = w then 1 else 0) := by
  have bx := hb x hx.1 hx.2
  have hby := hb y hy.1 hy.2
  have e1 : xa_w32 ((M1 82 x) + 1) = M1 82 x + 1 := xa_w32_id (by omega) (by omega)
  rw [e1]
  by_cases cy : y = w
  · rw [← cy, xa_up_eq, if_pos rfl]
    by_cases cx : x = y
    · rw [cx, xa_up_eq, if_pos rfl, xa_w32_id (by rw [cx] at bx; omega) (by rw [cx] at bx; omega)]
    · rw [xa_up_ne (by omega), if_neg cx, xa_w32_id (by omega) (by omega)]
      omega
  · rw [xa_up_ne (by omega), if_neg cy]
    by_cases cx : x = w
    · rw [← cx, xa_up_eq, if_pos rfl]
      omega
    · rw [xa_up_ne (by omega), if_neg cx]
      omega
theorem wv_P_s {M M1 M3 : xa_M} {X x x8 p dr dn : Int} (h : wv_P M X M1 x) (h29 : 0 ≤ M1 60 29) (hS : wp_S (M 60 6) (M 64) (M 66) (M 67) (M1 78) x (M1 78 x) p dr dn) (h8 : x8 = M 64 dn) (hd : M1 78 x8 = M1 78 x - 1) (e78 : ∀ j, M3 78 j = M1 78 j) (e29 : M3 60 29 = M1 60 29 + 1) (e79 : M3 79 (M1 60 29) = p) (e79' : ∀ j, ¬ j = M1 60 29 → M3 79 j = M1 79 j) (e82 : ∀ w : Int, M3 82 w = M1 82 w + (if dr = w then 1 else 0) - (if dn = w then 1 else 0)) (e83 : ∀ w : Int, (w = dr ∨ w = dn → M3 83 w = 1) ∧ (¬ (w = dr ∨ w = dn) → M3 83 w = M1 83 w)) : wv_P M X M3 x8 := by
  obtain ⟨h1, h2, h3, Dr, Dn, hQ, hx, hR⟩ := h
  have f78 : M3 78 = M1 78 := funext e78
  have ee : ((M1 60 29).toNat : Int) = M1 60 29 := Int.toNat_of_nonneg h29
  refine ⟨wr_L_k e78 h1, by rw [e78]; exact h2, by rw [e78, e78, e29]; omega, fun j => if j = M1 60 29 then dr else Dr j, fun j => if j = M1 60 29 then dn else Dn j, ?_, ?_, fun w w0 w1 => ?_⟩
  · rw [f78, e29]
    refine wp_Qs (p := p) (dr := dr) (dn := dn) hQ h29 (fun j hj => ⟨e79' j hj, if_neg hj, if_neg hj⟩) e79 (if_pos rfl) (if_pos rfl) ?_
    rw [← hx, show M1 78 0 - M1 60 29 = M1 78 x by omega]
    exact hS
  · rw [e29, wp_hs (by omega), show M1 60 29 + 1 - 1 = M1 60 29 by omega, if_pos rfl]
    exact h8
  · obtain ⟨a, b, c⟩ := hR w w0 w1
    rw [e29, show (M1 60 29 + 1).toNat = (M1 60 29).toNat + 1 by omega, wq_c1, wq_c1, ee, if_pos rfl, if_pos rfl, wq_ce (D := Dr) _ (fun i i0 i1 => if_neg (by omega)), wq_ce (D := Dn) _ (fun i i0 i1 => if_neg (by omega)), e82, a]
    refine ⟨by omega, ?_, ?_⟩
    · by_cases q : w = dr ∨ w = dn
      · exact Or.inr ((e83 w).1 q)
      · rw [(e83 w).2 q]
        exact b
    · constructor
      · intro hq
        by_cases q : w = dr ∨ w = dn
        · refine ⟨M1 60 29, h29, by omega, ?_⟩
          dsimp only
          rw [if_pos rfl, if_pos rfl]
          rcases q with q | q
          · exact Or.inl q.symm
          · exact Or.inr q.symm
        · rw [(e83 w).2 q] at hq
          obtain ⟨k, k0, k1, k2⟩ := c.mp hq
          refine ⟨k, k0, by omega, ?_⟩
          dsimp only
          rw [if_neg (by omega), if_neg (by omega)]
          exact k2
      · rintro ⟨k, k0, k1, k2⟩
        dsimp only at k2
        by_cases q : w = dr ∨ w = dn
        · exact (e83 w).1 q
        · rw [(e83 w).2 q]
          refine c.mpr ⟨k, k0, ?_, ?_⟩
          · by_cases e : k = M1 60 29
            · rw [if_pos e, if_pos e] at k2
              exact absurd (by rcases k2 with k2 | k2; exact Or.inl k2.symm; exact Or.inr k2.symm) q
            · omega
          · by_cases e : k = M1 60 29
            · rw [if_pos e, if_pos e] at k2
              exact absurd (by rcases k2 with k2 | k2; exact Or.inl k2.symm; exact Or.inr k2.symm) q
            · rw [if_neg e, if_neg e] at k2
              exact k2
/-- the whole way with its roles -/
def wv_D (M : xa_M) (X : Int) (M1 : xa_M) : Prop := wr_L M X M1 ∧ M1 78 0 < 99 ∧ M1 60 29 = M1 78 0 ∧ ∃ Dr Dn : Int → Int, wp_Q (M 60 6) (M 64) (M 66) (M 67) (M1 78) (M1 78 0) (M1 79) Dr Dn (M1 78 0) ∧ wv_R M1 Dr Dn (M1 78 0)
theorem wv_PD {M M1 : xa_M} {X x : Int} (h : wv_P M X M1 x) (h0 : M1 78 x = 0) : wv_D M X M1 := by
  obtain ⟨h1, h2, h3, Dr, Dn, hQ, -, hR⟩ := h
  have e : M1 60 29 = M1 78 0 := by omega
  rw [e] at hQ hR
  exact ⟨h1, h2, e, Dr, Dn, hQ, hR⟩
theorem wv_D_k {M M1 M2 : xa_M} {X : Int} (e78 : ∀ j, M2 78 j = M1 78 j) (e79 : ∀ j, M2 79 j = M1 79 j) (e29 : M2 60 29 = M1 60 29) (e82 : ∀ j, M2 82 j = M1 82 j) (e83 : ∀ j, M2 83 j = M1 83 j) (h : wv_D M X M1) : wv_D M X M2 := by
  obtain ⟨h1, h2, h3, Dr, Dn, h4, h5⟩ := h
  refine ⟨wr_L_k e78 h1, by rw [e78]; exact h2, by rw [e78, e29]; exact h3, Dr, Dn, ?_, ?_⟩
  · rw [show M2 78 = M1 78 from funext e78, show M2 79 = M1 79 from funext e79]
    exact h4
  · rw [e78]
    intro w w0 w1
    rw [e82, e83]
    exact h5 w w0 w1
/-- the list of the wheels on the way, so far -/
def wv_W (M1 : xa_M) (x : Int) : Prop := M1 60 32 = wq_s (M1 83) x.toNat ∧ ∀ w : Int, 0 ≤ w → w < x → M1 83 w = 1 → M1 80 (wq_s (M1 83) w.toNat) = w ∧ M1 81 (wq_s (M1 83) w.toNat) = M1 82 w
theorem wv_b01 {M M1 : xa_M} {X : Int} (h : wv_D M X M1) : ∀ w : Int, 0 ≤ w → w < 14 → M1 83 w = 0 ∨ M1 83 w = 1 := by
  obtain ⟨-, -, -, Dr, Dn, -, h5⟩ := h
  exact fun w w0 w1 => (h5 w w0 w1).2.1
theorem wq_sm {f : Int → Int} (m : Nat) : ∀ n : Nat, n ≤ m → (∀ i : Int, 0 ≤ i → i < m → 0 ≤ f i) → wq_s f n ≤ wq_s f m := by
  induction m with
  | zero =>
    intro n hn _
    rw [show n = 0 by omega]
    exact Int.le_refl _
  | succ m ih =>
    intro n hn h
    by_cases e : n = m + 1
    · rw [e]
      exact Int.le_refl _
    · have h1 := ih n (by omega) (fun i i0 i1 => h i i0 (by omega))
      have h2 := h m (by omega) (by omega)
      rw [wq_s1]
      omega
theorem wv_W0 {M1 : xa_M} (h : M1 60 32 = 0) : wv_W M1 0 := ⟨h, fun w w0 w1 => by omega⟩
theorem wv_Wn {M1 : xa_M} {x : Int} (hx : 0 ≤ x) (h : wv_W M1 x) (h0 : M1 83 x = 0) : wv_W M1 (x + 1) := by
  refine ⟨?_, fun w w0 w1 w2 => h.2 w w0 ?_ w2⟩
  · rw [show (x + 1).toNat = x.toNat + 1 by omega, wq_s1, show ((x.toNat : Nat) : Int) = x by omega, h0, h.1]
    omega
  · by_cases e : w = x
    · rw [e, h0] at w2
      omega
    · omega
theorem wv_Wy {M1 M2 : xa_M} {x : Int} (hx : 0 ≤ x) (hx1 : x < 14) (h01 : ∀ w : Int, 0 ≤ w → w < 14 → M1 83 w = 0 ∨ M1 83 w = 1) (h : wv_W M1 x) (h0 : ¬ M1 83 x = 0) (e32 : M2 60 32 = M1 60 32 + 1) (e80 : ∀ j, M2 80 j = if j = M1 60 32 then x else M1 80 j) (e81 : ∀ j, M2 81 j = if j = M1 60 32 then M1 82 x else M1 81 j) (e82 : ∀ j, M2 82 j = M1 82 j) (e83 : ∀ j, M2 83 j = M1 83 j) : wv_W M2 (x + 1) := by
  have h1 : M1 83 x = 1 := by
    rcases h01 x hx hx1 with q | q
    · exact absurd q h0
    · exact q
  have ee : M2 83 = M1 83 := funext e83
  rw [wv_W, ee]
  refine ⟨?_, fun w w0 w1 w2 => ?_⟩
  · rw [show (x + 1).toNat = x.toNat + 1 by omega, wq_s1, show ((x.toNat : Nat) : Int) = x by omega, h1, e32, h.1]
  · rw [e80, e81, e82]
    by_cases e : w = x
    · rw [e, if_pos h.1.symm, if_pos h.1.symm]
      exact ⟨rfl, rfl⟩
    · have hl := wq_sm (f := M1 83) x.toNat (w.toNat + 1) (by omega) (fun i i0 i1 => by
        rcases h01 i i0 (by omega) with q | q
        · rw [q]
          exact Int.le_refl 0
        · rw [q]
          omega)
      rw [wq_s1, show ((w.toNat : Nat) : Int) = w by omega, w2, ← h.1] at hl
      rw [if_neg (by omega), if_neg (by omega)]
      exact h.2 w w0 (by omega) w2
def wv_Q (M : xa_M) (X : Int) (M1 : xa_M) (r : Int) : Prop := wr_L M X M1 ∧ ((r = 1 ∧ wv_D M X M1 ∧ wv_W M1 (M 60 0)) ∨ (r = 0 ∧ 99 ≤ M1 78 0))
-- the wheels on the way: the class's list is the reference's (lemmas behind fw, wv; not tried)
set_option maxRecDepth 20000
theorem wq_ex {D : Int → Int} {w : Int} (n : Nat) : (∃ i : Int, 0 ≤ i ∧ i < n ∧ D i = w) ↔ 0 < wq_c D w n := by
  constructor
  · rintro ⟨i, i0, i1, e⟩
    induction n with
    | zero => omega
    | succ n ih =>
      have hb := (wq_cb (D := D) (w := w) n).1
      rw [wq_c1]
      by_cases c : i = (n : Int)
      · rw [if_pos (by rw [← c]; exact e)]
        omega
      · have := ih (by omega)
        by_cases d : D (n : Int) = w
        · rw [if_pos d]
          omega
        · rw [if_neg d]
          omega
  · intro h
    by_cases c : ∃ i : Int, 0 ≤ i ∧ i < n ∧ D i = w
    · exact c
    · rw [wq_0 n (fun i i0 i1 e => c ⟨i, i0, i1, e⟩)] at h
      omega
/-- 1 if it is among the first n, else 0 -/
def wf_b (D : Int → Int) (n w : Int) : Int := if 0 < wq_c D w n.toNat then 1 else 0
theorem wf_b01 {D : Int → Int} {n w : Int} : wf_b D n w = 0 ∨ wf_b D n w = 1 := by
  by_cases c : 0 < wq_c D w n.toNat
  · exact Or.inr (if_pos c)
  · exact Or.inl (if_neg c)
theorem wf_b1 {D : Int → Int} {n w : Int} (hn : 0 ≤ n) : wf_b D n w = 1 ↔ ∃ i : Int, 0 ≤ i ∧ i < n ∧ D i = w := by
  have h := wq_ex (D := D) (w := w) n.toNat
  rw [show ((n.toNat : Nat) : Int) = n by omega] at h
  rw [h]
  constructor
  · intro e
    by_cases c : 0 < wq_c D w n.toNat
    · exact c
    · rw [wf_b, if_neg c] at e
      omega
  · intro c
    exact if_pos c
/-- where all differ, a count is the 0 or 1 -/
theorem wf_bc {D : Int → Int} {n w : Int} (hn : 0 ≤ n) (hd : ∀ i j : Int, 0 ≤ i → i < n → 0 ≤ j → j < n → D i = D j → i = j) : wf_b D n w = wq_c D w n.toNat := by
  have en : ((n.toNat : Nat) : Int) = n := by omega
  by_cases c : ∃ i : Int, 0 ≤ i ∧ i < n ∧ D i = w
  · rw [(wf_b1 hn).mpr c, wq_1 n.toNat (fun i j i0 i1 j0 j1 => hd i j i0 (by omega) j0 (by omega)) (by rw [en]; exact c)]
  · rw [wq_0 n.toNat (fun i i0 i1 e => c ⟨i, i0, by omega, e⟩), wf_b, wq_0 n.toNat (fun i i0 i1 e => c ⟨i, i0, by omega, e⟩), if_neg (by omega)]
/-- on the way: it drives or is driven -/
def wf_g (Dr Dn : Int → Int) (n w : Int) : Int := if wf_b Dr n w = 1 ∨ wf_b Dn n w = 1 then 1 else 0
theorem wf_g01 {Dr Dn : Int → Int} {n w : Int} : wf_g Dr Dn n w = 0 ∨ wf_g Dr Dn n w = 1 := by
  by_cases c : wf_b Dr n w = 1 ∨ wf_b Dn n w = 1
  · exact Or.inr (if_pos c)
  · exact Or.inl (if_neg c)
theorem wf_g1 {Dr Dn : Int → Int} {n w : Int} : wf_g Dr Dn n w = 1 ↔ wf_b Dr n w = 1 ∨ wf_b Dn n w = 1 := by
  constructor
  · intro e
    by_cases c : wf_b Dr n w = 1 ∨ wf_b Dn n w = 1
    · exact c
    · rw [wf_g, if_neg c] at e
      omega
  · exact fun c => if_pos c
theorem wf_b0 {D : Int → Int} {n w : Int} (hn : 0 ≤ n) (h : ∀ i : Int, 0 ≤ i → i < n → ¬ D i = w) : wf_b D n w = 0 := by
  rcases wf_b01 (D := D) (n := n) (w := w) with q | q
  · exact q
  · obtain ⟨i, i0, i1, e⟩ := (wf_b1 hn).mp q
    exact absurd e (h i i0 i1)
theorem wf_sz {Dr Dn : Int → Int} {n : Int} (m : Nat) : 0 ≤ wq_s (wf_g Dr Dn n) m ∧ wq_s (wf_g Dr Dn n) m ≤ (m : Int) := by
  induction m with
  | zero => exact ⟨Int.le_refl 0, Int.le_refl 0⟩
  | succ m ih =>
    rw [wq_s1]
    rcases wf_g01 (Dr := Dr) (Dn := Dn) (n := n) (w := (m : Int)) with q | q
    · rw [q]
      omega
    · rw [q]
      omega
/-- the class's list so far: how many (f), which (W), roles (R), least (L), most (H) -/
def wf_W (Dr Dn Lo Hi : Int → Int) (n s : Int) (W R L H : Int → Int) (x : Int) : Prop := s = wq_s (wf_g Dr Dn n) x.toNat ∧ ∀ w : Int, 0 ≤ w → w < x → wf_g Dr Dn n w = 1 → W (wq_s (wf_g Dr Dn n) w.toNat) = w ∧ R (wq_s (wf_g Dr Dn n) w.toNat) = wf_b Dr n w - wf_b Dn n w ∧ L (wq_s (wf_g Dr Dn n) w.toNat) = Lo w ∧ H (wq_s (wf_g Dr Dn n) w.toNat) = Hi w
theorem wf_W0 {Dr Dn Lo Hi W R L H : Int → Int} {n s : Int} (h : s = 0) : wf_W Dr Dn Lo Hi n s W R L H 0 := ⟨h, fun w w0 w1 => by omega⟩
theorem wf_Wn {Dr Dn Lo Hi W R L H : Int → Int} {n s x : Int} (hx : 0 ≤ x) (h : wf_W Dr Dn Lo Hi n s W R L H x) (h0 : ¬ (wf_b Dr n x = 1 ∨ wf_b Dn n x = 1)) : wf_W Dr Dn Lo Hi n s W R L H (x + 1) := by
  have e0 : wf_g Dr Dn n x = 0 := if_neg h0
  refine ⟨?_, fun w w0 w1 w2 => h.2 w w0 ?_ w2⟩
  · rw [show (x + 1).toNat = x.toNat + 1 by omega, wq_s1, show ((x.toNat : Nat) : Int) = x by omega, e0, h.1]
    omega
  · by_cases e : w = x
    · rw [e, e0] at w2
      omega
    · omega
theorem wf_Wy {Dr Dn Lo Hi W R L H W' R' L' H' : Int → Int} {n s x : Int} (hx : 0 ≤ x) (h : wf_W Dr Dn Lo Hi n s W R L H x) (h0 : wf_b Dr n x = 1 ∨ wf_b Dn n x = 1) (eW : ∀ j, W' j = if j = s then x else W j) (eR : ∀ j, R' j = if j = s then wf_b Dr n x - wf_b Dn n x else R j) (eL : ∀ j, L' j = if j = s then Lo x else L j) (eH : ∀ j, H' j = if j = s then Hi x else H j) : wf_W Dr Dn Lo Hi n (s + 1) W' R' L' H' (x + 1) := by
  have e0 : wf_g Dr Dn n x = 1 := if_pos h0
  refine ⟨?_, fun w w0 w1 w2 => ?_⟩
  · rw [show (x + 1).toNat = x.toNat + 1 by omega, wq_s1, show ((x.toNat : Nat) : Int) = x by omega, e0, h.1]
  · rw [eW, eR, eL, eH]
    by_cases e : w = x
    · rw [e, if_pos h.1.symm, if_pos h.1.symm, if_pos h.1.symm, if_pos h.1.symm]
      exact ⟨rfl, rfl, rfl, rfl⟩
    · have hl := wq_sm (f := wf_g Dr Dn n) x.toNat (w.toNat + 1) (by omega) (fun i i0 i1 => by
        rcases wf_g01 (Dr := Dr) (Dn := Dn) (n := n) (w := i) with q | q
        · rw [q]
          exact Int.le_refl 0
        · rw [q]
          omega)
      rw [wq_s1, show ((w.toNat : Nat) : Int) = w by omega, w2, ← h.1] at hl
      rw [if_neg (by omega), if_neg (by omega), if_neg (by omega), if_neg (by omega)]
      exact h.2 w w0 (by omega) w2
/-- the reference's marks and roles are those -/
theorem wf_gv {M M1 : xa_M} {X : Int} (h : wv_D M X M1) (h0 : 0 ≤ M1 78 0) : ∃ Dr Dn : Int → Int, wp_Q (M 60 6) (M 64) (M 66) (M 67) (M1 78) (M1 78 0) (M1 79) Dr Dn (M1 78 0) ∧ ∀ w : Int, 0 ≤ w → w < 14 → M1 83 w = wf_g Dr Dn (M1 78 0) w ∧ M1 82 w = wf_b Dr (M1 78 0) w - wf_b Dn (M1 78 0) w := by
  obtain ⟨-, -, -, Dr, Dn, hQ, hR⟩ := h
  refine ⟨Dr, Dn, hQ, fun w w0 w1 => ?_⟩
  obtain ⟨a, b, c⟩ := hR w w0 w1
  have d1 : ∀ i j : Int, 0 ≤ i → i < M1 78 0 → 0 ≤ j → j < M1 78 0 → Dr i = Dr j → i = j := fun i j i0 i1 j0 j1 => (wp_inj hQ rfl i0 i1 j0 j1).1
  have d2 : ∀ i j : Int, 0 ≤ i → i < M1 78 0 → 0 ≤ j → j < M1 78 0 → Dn i = Dn j → i = j := fun i j i0 i1 j0 j1 => (wp_inj hQ rfl i0 i1 j0 j1).2
  refine ⟨?_, ?_⟩
  · by_cases q : M1 83 w = 1
    · rw [q]
      obtain ⟨k, k0, k1, k2⟩ := c.mp q
      refine (wf_g1.mpr ?_).symm
      rcases k2 with k2 | k2
      · exact Or.inl ((wf_b1 h0).mpr ⟨k, k0, k1, k2⟩)
      · exact Or.inr ((wf_b1 h0).mpr ⟨k, k0, k1, k2⟩)
    · have z : M1 83 w = 0 := by
        rcases b with b | b
        · exact b
        · exact absurd b q
      rw [z]
      refine (if_neg ?_).symm
      rintro (g | g)
      · obtain ⟨k, k0, k1, k2⟩ := (wf_b1 h0).mp g
        exact q (c.mpr ⟨k, k0, k1, Or.inl k2⟩)
      · obtain ⟨k, k0, k1, k2⟩ := (wf_b1 h0).mp g
        exact q (c.mpr ⟨k, k0, k1, Or.inr k2⟩)
  · rw [a, wf_bc h0 d1, wf_bc h0 d2]
-- the class's way and the reference's are one (lemmas behind wy, fw, wv, wx; not tried)
set_option maxRecDepth 20000
/-- the same meshes and axles, and the same nearness below 11 -/
def wz_E (n : Int) (Ax One Oth F Ax' One' Oth' F' : Int → Int) : Prop := (∀ i : Int, 0 ≤ i → i < n → One' i = One i ∧ Oth' i = Oth i ∧ Ax' (One i) = Ax (One i) ∧ Ax' (Oth i) = Ax (Oth i)) ∧ ∀ i : Int, 0 ≤ i → i < n → ∀ l : Int, l ≤ 11 → (F' (Ax (One i)) = l - 1 ↔ F (Ax (One i)) = l - 1) ∧ (F' (Ax (Oth i)) = l - 1 ↔ F (Ax (Oth i)) = l - 1)
theorem wz_c {n h l i : Int} {Ax One Oth F Ax' One' Oth' F' : Int → Int} (hE : wz_E n Ax One Oth F Ax' One' Oth' F') (hl : l ≤ 11) (i0 : 0 ≤ i) (i1 : i < n) : wp_c Ax' One' Oth' F' h l i ↔ wp_c Ax One Oth F h l i := by
  obtain ⟨a, b, c, d⟩ := hE.1 i i0 i1
  obtain ⟨e, f⟩ := hE.2 i i0 i1 l hl
  unfold wp_c
  rw [a, b, c, d, e, f]
theorem wz_S {n h l p dr dn : Int} {Ax One Oth F Ax' One' Oth' F' : Int → Int} (hE : wz_E n Ax One Oth F Ax' One' Oth' F') (hl : l ≤ 11) (hS : wp_S n Ax' One' Oth' F' h l p dr dn) : wp_S n Ax One Oth F h l p dr dn := by
  obtain ⟨h1, h2, h3, h4⟩ := hS
  refine ⟨h1, (wz_c hE hl h1.1 h1.2).mp h2, fun i i0 i1 hc => h3 i i0 i1 ((wz_c hE hl i0 (by omega)).mpr hc), ?_⟩
  obtain ⟨a, b, c, d⟩ := hE.1 p h1.1 h1.2
  rw [a, b, c] at h4
  exact h4
theorem wz_dn {n h l p dr dn : Int} {Ax One Oth F Ax' One' Oth' F' : Int → Int} (hE : wz_E n Ax One Oth F Ax' One' Oth' F') (hS : wp_S n Ax' One' Oth' F' h l p dr dn) : Ax' dn = Ax dn := by
  obtain ⟨h1, h2, h3, h4⟩ := hS
  obtain ⟨a, b, c, d⟩ := hE.1 p h1.1 h1.2
  rcases h4 with ⟨x1, x2, x3⟩ | ⟨x1, x2, x3⟩
  · rw [x3, b, d]
  · rw [x3, a, c]
theorem wz_Q {n L e : Int} {Ax One Oth F Ax' One' Oth' F' P Dr Dn : Int → Int} (hE : wz_E n Ax One Oth F Ax' One' Oth' F') (hL : L ≤ 11) (h : wp_Q n Ax' One' Oth' F' L P Dr Dn e) : wp_Q n Ax One Oth F L P Dr Dn e := by
  intro k k0 k1
  have hS := wz_S hE (by omega) (h k k0 k1)
  have eh : wp_h Ax' Dn k = wp_h Ax Dn k := by
    by_cases c : k ≤ 0
    · rw [wp_h0 c, wp_h0 c]
    · rw [wp_hs c, wp_hs c]
      exact wz_dn hE (h (k - 1) (by omega) (by omega))
  rw [← eh]
  exact hS
/-- a way is one -/
theorem wz_one {n L e : Int} {Ax One Oth F P Dr Dn P' Dr' Dn' : Int → Int} (h1 : wp_Q n Ax One Oth F L P Dr Dn e) (h2 : wp_Q n Ax One Oth F L P' Dr' Dn' e) : ∀ (m : Nat) (k : Int), 0 ≤ k → k < e → k ≤ (m : Int) → P k = P' k ∧ Dr k = Dr' k ∧ Dn k = Dn' k := by
  intro m
  induction m with
  | zero =>
    intro k k0 k1 k2
    have a := h1 k k0 k1
    have b := h2 k k0 k1
    have k3 : k ≤ 0 := by omega
    rw [wp_h0 k3] at a
    rw [wp_h0 k3] at b
    exact wp_S_one a b
  | succ m ih =>
    intro k k0 k1 k2
    by_cases c : k ≤ 0
    · exact ih k k0 k1 (by omega)
    · have a := h1 k k0 k1
      have b := h2 k k0 k1
      rw [wp_hs c] at a
      rw [wp_hs c] at b
      rw [← (ih (k - 1) (by omega) (by omega) (by omega)).2.2] at b
      exact wp_S_one a b
theorem wz_b {D D' : Int → Int} {n w : Int} (h : ∀ k : Int, 0 ≤ k → k < n → D' k = D k) : wf_b D' n w = wf_b D n w := by
  unfold wf_b
  by_cases hn : 0 ≤ n
  · rw [wq_ce n.toNat (fun i i0 i1 => h i i0 (by omega))]
  · rw [show n.toNat = 0 by omega]
    rfl
theorem wz_g {Dr Dn Dr' Dn' : Int → Int} {n w : Int} (h : ∀ k : Int, 0 ≤ k → k < n → Dr' k = Dr k ∧ Dn' k = Dn k) : wf_g Dr' Dn' n w = wf_g Dr Dn n w := by
  unfold wf_g
  rw [wz_b (D := Dr) (D' := Dr') (fun k k0 k1 => (h k k0 k1).1), wz_b (D := Dn) (D' := Dn') (fun k k0 k1 => (h k k0 k1).2)]
/-- each place of a list has its wheel -/
theorem wz_iv {f : Int → Int} (m : Nat) : (∀ w : Int, 0 ≤ w → w < m → f w = 0 ∨ f w = 1) → ∀ i : Int, 0 ≤ i → i < wq_s f m → ∃ w : Int, 0 ≤ w ∧ w < m ∧ f w = 1 ∧ wq_s f w.toNat = i := by
  induction m with
  | zero =>
    intro _ i i0 i1
    exact absurd i1 (by rw [show wq_s f 0 = 0 from rfl]; omega)
  | succ m ih =>
    intro h i i0 i1
    rw [wq_s1] at i1
    by_cases c : i < wq_s f m
    · obtain ⟨w, w0, w1, w2, w3⟩ := ih (fun w w0 w1 => h w w0 (by omega)) i i0 c
      exact ⟨w, w0, by omega, w2, w3⟩
    · have g := h m (by omega) (by omega)
      refine ⟨m, by omega, by omega, ?_, ?_⟩
      · rcases g with g | g
        · rw [g] at i1
          omega
        · exact g
      · rw [show ((m : Int)).toNat = m by omega]
        rcases g with g | g
        · rw [g] at i1
          omega
        · rw [g] at i1
          omega
/-- both lists are alike -/
theorem wz_W {Dr Dn Dr' Dn' Lo Hi W R L H f g T U : Int → Int} {n s z x : Int} (hx : 0 ≤ x) (hx1 : x ≤ 14) (hD : ∀ k : Int, 0 ≤ k → k < n → Dr' k = Dr k ∧ Dn' k = Dn k) (hW : wf_W Dr' Dn' Lo Hi n s W R L H x) (hf : ∀ w : Int, 0 ≤ w → w < 14 → f w = wf_g Dr Dn n w ∧ g w = wf_b Dr n w - wf_b Dn n w) (hz : z = wq_s f x.toNat) (hV : ∀ w : Int, 0 ≤ w → w < x → f w = 1 → T (wq_s f w.toNat) = w ∧ U (wq_s f w.toNat) = g w) : s = z ∧ (0 ≤ s ∧ s ≤ 14) ∧ ∀ i : Int, 0 ≤ i → i < s → W i = T i ∧ R i = U i ∧ L i = Lo (W i) ∧ H i = Hi (W i) ∧ 0 ≤ W i ∧ W i < x := by
  have eg : ∀ w : Int, 0 ≤ w → w < 14 → wf_g Dr' Dn' n w = f w := fun w w0 w1 => (wz_g hD).trans (hf w w0 w1).1.symm
  have es : ∀ m : Nat, m ≤ 14 → wq_s (wf_g Dr' Dn' n) m = wq_s f m := fun m hm => wq_se m (fun i i0 i1 => eg i i0 (by omega))
  have e1 : s = z := by rw [hW.1, hz, es x.toNat (by omega)]
  have hs := wf_sz (Dr := Dr') (Dn := Dn') (n := n) x.toNat
  refine ⟨e1, by rw [hW.1]; omega, fun i i0 i1 => ?_⟩
  rw [e1, hz] at i1
  obtain ⟨w, w0, w1, w2, w3⟩ := wz_iv x.toNat (fun w w0 w1 => by rw [← eg w w0 (by omega)]; exact wf_g01) i i0 i1
  have a := hW.2 w w0 (by omega) (by rw [eg w w0 (by omega)]; exact w2)
  have b := hV w w0 (by omega) w2
  rw [es w.toNat (by omega), w3] at a
  rw [w3] at b
  obtain ⟨a1, a2, a3, a4⟩ := a
  have br : wf_b Dr' n w = wf_b Dr n w := wz_b (fun k k0 k1 => (hD k k0 k1).1)
  have bn : wf_b Dn' n w = wf_b Dn n w := wz_b (fun k k0 k1 => (hD k k0 k1).2)
  rw [a1]
  refine ⟨b.1.symm, ?_, a3, a4, w0, by omega⟩
  rw [a2, b.2, (hf w w0 (by omega)).2, br, bn]
-- no product of teeth on the way is too great (lemmas behind fw, wv, wx; not tried)
set_option maxRecDepth 20000
theorem wb_s {g r R : Int → Int} (h01 : ∀ w : Int, g w = 0 ∨ g w = 1) (h0 : ∀ w : Int, g w = 0 → r w = 0) (x : Nat) : (∀ w : Int, 0 ≤ w → w < x → g w = 1 → R (wq_s g w.toNat) = r w) → 0 ≤ wq_s g x ∧ wq_s R (wq_s g x).toNat = wq_s r x := by
  induction x with
  | zero => exact fun _ => ⟨Int.le_refl 0, rfl⟩
  | succ x ih =>
    intro h
    obtain ⟨i1, i2⟩ := ih (fun w w0 w1 => h w w0 (by omega))
    rw [wq_s1, wq_s1]
    rcases h01 (x : Int) with q | q
    · rw [q, h0 _ q, Int.add_zero, Int.add_zero]
      exact ⟨i1, i2⟩
    · have e := h (x : Int) (by omega) (by omega) q
      rw [show ((x : Int)).toNat = x by omega] at e
      rw [q, show (wq_s g x + 1).toNat = (wq_s g x).toNat + 1 by omega, wq_s1, show (((wq_s g x).toNat : Nat) : Int) = wq_s g x by omega, e, i2]
      exact ⟨by omega, rfl⟩
/-- the roles' sum is 0 -/
theorem wb_0 {Dr Dn : Int → Int} {n : Int} {x : Nat} (hn : 0 ≤ n) (hr : ∀ k : Int, 0 ≤ k → k < n → (0 ≤ Dr k ∧ Dr k < x) ∧ 0 ≤ Dn k ∧ Dn k < x) (d1 : ∀ i j : Int, 0 ≤ i → i < n → 0 ≤ j → j < n → Dr i = Dr j → i = j) (d2 : ∀ i j : Int, 0 ≤ i → i < n → 0 ≤ j → j < n → Dn i = Dn j → i = j) : wq_s (fun w => wf_b Dr n w - wf_b Dn n w) x = 0 := by
  have en : ((n.toNat : Nat) : Int) = n := by omega
  have a : wq_s (fun w => wf_b Dr n w) x = n := by
    rw [wq_se (g := fun w => wq_c Dr w n.toNat) x (fun i _ _ => wf_bc hn d1), wq_all n.toNat (fun i i0 i1 => (hr i i0 (by omega)).1), en]
  have b : wq_s (fun w => wf_b Dn n w) x = n := by
    rw [wq_se (g := fun w => wq_c Dn w n.toNat) x (fun i _ _ => wf_bc hn d2), wq_all n.toNat (fun i i0 i1 => (hr i i0 (by omega)).2), en]
  rw [wq_sb (f := fun w => wf_b Dr n w) (g := fun w => wf_b Dn n w), a, b]
  omega
/-- so no product of the list's teeth is too great -/
theorem wb_B {Dr Dn Lo Hi W R L H : Int → Int} {n s : Int} {x : Nat} (hn : 0 ≤ n) (hx : x ≤ 14) (hr : ∀ k : Int, 0 ≤ k → k < n → (0 ≤ Dr k ∧ Dr k < x) ∧ 0 ≤ Dn k ∧ Dn k < x) (d1 : ∀ i j : Int, 0 ≤ i → i < n → 0 ≤ j → j < n → Dr i = Dr j → i = j) (d2 : ∀ i j : Int, 0 ≤ i → i < n → 0 ≤ j → j < n → Dn i = Dn j → i = j) (hW : wf_W Dr Dn Lo Hi n s W R L H (x : Int)) (V : Int → Int) (m : Nat) (hm : (m : Int) ≤ s) (hV : ∀ i : Int, 0 ≤ i → i < m → 0 ≤ V i ∧ V i ≤ 400) : (0 ≤ fs_u R V m ∧ fs_u R V m ≤ 1638400000000000000) ∧ (0 ≤ fs_d R V m ∧ fs_d R V m ≤ 1638400000000000000) := by
  obtain ⟨h1, h2⟩ := hW
  rw [show ((x : Int)).toNat = x by omega] at h1
  have hz := wf_sz (Dr := Dr) (Dn := Dn) (n := n) x
  have hs := wb_s (g := wf_g Dr Dn n) (r := fun w => wf_b Dr n w - wf_b Dn n w) (R := R) (fun w => wf_g01) (fun w hg => by
    have c : ¬ (wf_b Dr n w = 1 ∨ wf_b Dn n w = 1) := fun c => by
      rw [wf_g1.mpr c] at hg
      omega
    have c1 := wf_b01 (D := Dr) (n := n) (w := w)
    have c2 := wf_b01 (D := Dn) (n := n) (w := w)
    show wf_b Dr n w - wf_b Dn n w = 0
    omega) x (fun w w0 w1 w2 => (h2 w w0 w1 w2).2.1)
  rw [wb_0 hn hr d1 d2] at hs
  refine wq_B (s := s.toNat) (by omega) (fun i i0 i1 => ?_) ?_ V m (by omega) hV
  · obtain ⟨w, w0, w1, w2, w3⟩ := wz_iv (f := wf_g Dr Dn n) x (fun w _ _ => wf_g01) i i0 (by omega)
    have e := (h2 w w0 w1 w2).2.1
    rw [w3] at e
    have c1 := wf_b01 (D := Dr) (n := n) (w := w)
    have c2 := wf_b01 (D := Dn) (n := n) (w := w)
    omega
  · rw [h1]
    exact hs.2
theorem gc_half {a b : Int} (h0 : 0 < b) (h1 : b ≤ a) : 2 * (a % b) < a := by
  have e := Int.mul_ediv_add_emod a b
  have q : 1 ≤ a / b := Int.le_ediv_of_mul_le h0 (by omega)
  have r := Int.emod_lt_of_pos a h0
  have m : b * 1 ≤ b * (a / b) := Int.mul_le_mul_of_nonneg_left q (by omega)
  generalize b * (a / b) = z at e m
  omega
theorem gc_step {a b : Int} {k : Nat} (h0 : 0 < b) (h1 : b ≤ a) (h : a * b < 2 ^ (k + 1)) : b * (a % b) < 2 ^ k := by
  have m : b * (2 * (a % b)) < b * a := Int.mul_lt_mul_of_pos_left (gc_half h0 h1) h0
  rw [Int.mul_comm b a, Int.mul_left_comm] at m
  rw [Int.pow_succ] at h
  generalize b * (a % b) = z at m
  generalize a * b = w at m h
  generalize (2 : Int) ^ k = v at h
  omega
theorem gc_pos {a b : Int} (ha : 0 < a) (hb : 0 < b) : 0 < a * b := Int.mul_pos ha hb
-- the search of fittings (class)
set_option maxRecDepth 20000
/-- no product of teeth is too great -/
def fb_B (R : Int → Int) (s : Int) : Prop := ∀ (V : Int → Int) (n : Nat), (n : Int) ≤ s → (∀ i : Int, 0 ≤ i → i < n → 0 ≤ V i ∧ V i ≤ 400) → (0 ≤ fs_u R V n ∧ fs_u R V n ≤ 1638400000000000000) ∧ (0 ≤ fs_d R V n ∧ fs_d R V n ≤ 1638400000000000000)
/-- the products up to place n are what they should be -/
def fb_P (M : xa_M) (n : Int) : Prop := ∀ j : Int, 0 ≤ j → j ≤ n → M 26 j = fs_u (M 22) (M 25) j.toNat ∧ M 27 j = fs_d (M 22) (M 25) j.toNat
theorem fb_u1 {R V : Int → Int} {i : Int} (h : 0 ≤ i) : fs_u R V (i + 1).toNat = fs_u R V i.toNat * (if 0 < R i then V i else 1) := by
  have ei : ((i.toNat : Nat) : Int) = i := Int.toNat_of_nonneg h
  rw [show (i + 1).toNat = i.toNat + 1 by omega, fs_u1, ei]
theorem fb_d1 {R V : Int → Int} {i : Int} (h : 0 ≤ i) : fs_d R V (i + 1).toNat = fs_d R V i.toNat * (if R i < 0 then V i else 1) := by
  have ei : ((i.toNat : Nat) : Int) = i := Int.toNat_of_nonneg h
  rw [show (i + 1).toNat = i.toNat + 1 by omega, fs_d1, ei]
theorem fb_ue {R V V' : Int → Int} {n : Int} (h : ∀ i : Int, 0 ≤ i → i < n → V' i = V i) : fs_u R V' n.toNat = fs_u R V n.toNat := fs_u_e n.toNat (fun i i0 i1 => h i i0 (by omega))
theorem fb_de {R V V' : Int → Int} {n : Int} (h : ∀ i : Int, 0 ≤ i → i < n → V' i = V i) : fs_d R V' n.toNat = fs_d R V n.toNat := fs_d_e n.toNat (fun i i0 i1 => h i i0 (by omega))
theorem fb_us {M : xa_M} {i v : Int} (h0 : 0 ≤ i) (hp : fb_P M i) : (xa_up M 25 i v) 26 i = fs_u ((xa_up M 25 i v) 22) ((xa_up M 25 i v) 25) i.toNat ∧ (xa_up M 25 i v) 27 i = fs_d ((xa_up M 25 i v) 22) ((xa_up M 25 i v) 25) i.toNat := by
  have z22 : (xa_up M 25 i v) 22 = M 22 := funext (fun j => xa_up_ne (by omega))
  have zV : ∀ j : Int, 0 ≤ j → j < i → (xa_up M 25 i v) 25 j = M 25 j := fun j j0 j1 => xa_up_ne (by omega)
  have g := hp i h0 (Int.le_refl _)
  rw [fb_ue zV, fb_de zV, z22]
  exact ⟨(xa_up_ne (by omega)).trans g.1, (xa_up_ne (by omega)).trans g.2⟩
theorem fb_bs {M : xa_M} {i v l : Int} (h0 : 0 ≤ i) (h1 : i < l) (hB : fb_B (M 22) l) (hV : ∀ j : Int, 0 ≤ j → j < i → 0 ≤ M 25 j ∧ M 25 j ≤ 400) (hv : 0 ≤ v ∧ v ≤ 400) : ((0 ≤ fs_u ((xa_up M 25 i v) 22) ((xa_up M 25 i v) 25) i.toNat ∧ fs_u ((xa_up M 25 i v) 22) ((xa_up M 25 i v) 25) i.toNat ≤ 1638400000000000000) ∧ (0 ≤ fs_d ((xa_up M 25 i v) 22) ((xa_up M 25 i v) 25) i.toNat ∧ fs_d ((xa_up M 25 i v) 22) ((xa_up M 25 i v) 25) i.toNat ≤ 1638400000000000000)) ∧ (0 ≤ fs_u ((xa_up M 25 i v) 22) ((xa_up M 25 i v) 25) (i + 1).toNat ∧ fs_u ((xa_up M 25 i v) 22) ((xa_up M 25 i v) 25) (i + 1).toNat ≤ 1638400000000000000) ∧ (0 ≤ fs_d ((xa_up M 25 i v) 22) ((xa_up M 25 i v) 25) (i + 1).toNat ∧ fs_d ((xa_up M 25 i v) 22) ((xa_up M 25 i v) 25) (i + 1).toNat ≤ 1638400000000000000) := by
  have z22 : (xa_up M 25 i v) 22 = M 22 := funext (fun j => xa_up_ne (by omega))
  have zB : ∀ j : Int, 0 ≤ j → j < i + 1 → 0 ≤ (xa_up M 25 i v) 25 j ∧ (xa_up M 25 i v) 25 j ≤ 400 := fun j j0 j1 => by
    by_cases e : j = i
    · rw [e, xa_up_eq]
      exact hv
    · rw [xa_up_ne (by omega)]
      exact hV j j0 (by omega)
  rw [z22]
  exact ⟨hB _ i.toNat (by omega) (fun j j0 j1 => zB j j0 (by omega)), hB _ (i + 1).toNat (by omega) (fun j j0 j1 => zB j j0 (by omega))⟩
/-- the memory behind new teeth and their products -/
def fb_M (M : xa_M) (i v : Int) : xa_M := xa_up (xa_up (xa_up M 25 i v) 26 (i + 1) (fs_u ((xa_up M 25 i v) 22) ((xa_up M 25 i v) 25) (i + 1).toNat)) 27 (i + 1) (fs_d ((xa_up M 25 i v) 22) ((xa_up M 25 i v) 25) (i + 1).toNat)
theorem fb_Mk {M : xa_M} {i v : Int} {q : Nat} {j : Int} (h1 : ¬ q = 25) (h2 : ¬ q = 26) (h3 : ¬ q = 27) : fb_M M i v q j = M q j := (xa_up_ne (by omega)).trans ((xa_up_ne (by omega)).trans (xa_up_ne (by omega)))
theorem fb_Mj {M : xa_M} {i v : Int} {j : Int} (h : ¬ j = i) : fb_M M i v 25 j = M 25 j := (xa_up_ne (by omega)).trans ((xa_up_ne (by omega)).trans (xa_up_ne (by omega)))
theorem fb_Mi {M : xa_M} {i v : Int} : fb_M M i v 25 i = v := (xa_up_ne (by omega)).trans ((xa_up_ne (by omega)).trans xa_up_eq)
theorem fb_MP {M : xa_M} {i v : Int} (h0 : 0 ≤ i) (hp : fb_P M i) : fb_P (fb_M M i v) (i + 1) := by
  have gR : fb_M M i v 22 = M 22 := funext (fun j => fb_Mk (by decide) (by decide) (by decide))
  have g2R : (xa_up M 25 i v) 22 = M 22 := funext (fun j => xa_up_ne (by omega))
  have gV : fb_M M i v 25 = (xa_up M 25 i v) 25 := funext (fun j => (xa_up_ne (by omega)).trans (xa_up_ne (by omega)))
  intro j j0 j1
  rw [gR, gV]
  by_cases e : j = i + 1
  · rw [e]
    exact ⟨(xa_up_ne (by omega)).trans (xa_up_eq.trans (by rw [g2R])), xa_up_eq.trans (by rw [g2R])⟩
  · have g := hp j j0 (by omega)
    have g5 : ∀ k : Int, 0 ≤ k → k < j → (xa_up M 25 i v) 25 k = M 25 k := fun k k0 k1 => xa_up_ne (by omega)
    rw [fb_ue g5, fb_de g5]
    exact ⟨(xa_up_ne (by omega)).trans ((xa_up_ne (by omega)).trans ((xa_up_ne (by omega)).trans g.1)), (xa_up_ne (by omega)).trans ((xa_up_ne (by omega)).trans ((xa_up_ne (by omega)).trans g.2))⟩
theorem cx_23_22 {b : Bool} {A : Nat → Nat} {h0 : g_H} {d : Nat} {M : xa_M} {post : Option xa_V → xa_M → Prop} {l1 u1 : Int} {i : Int} (h1 : 0 ≤ i ∧ i < 14) (k1 : post (some (0, 0, (-2147483648), 2147483647, M 22 i)) M) : xa_C (xl_I b) A h0 (d + 1) 23 [(2, 22, 0, 0, 0), (0, 0, l1, u1, i)] M post := by
  refine xa_C_arg [(2, 22, 0, 0, 0), (0, 0, (-2147483648), 2147483647, i)] (xa_svR (xa_svI (fun _ _ _ _ => by omega) xa_sv0)) ?_
  refine xa_meth (Q0 := (2, 1, false, 0, 0, 11)) (by decide +kernel) ⟨rfl, rfl⟩ (full := s_c_23) rfl rfl ?_
  intro hM hv Q hgo
  refine hgo.1 15 [] 0 _ _ _ ?_
  refine And.intro ?_ ?_
  · intro (c1 : i < 0)
    show post (some (0, 0, 0, 0, 0)) M
    exact absurd h1 (by omega)
  · intro (c1 : 0 ≤ i)
    refine And.intro ?_ ?_
    · intro (c2 : 14 ≤ i)
      show post (some (0, 0, 0, 0, 0)) M
      exact absurd h1 (by omega)
    · intro (c2 : i < 14)
      refine And.intro (show 0 ≤ i ∧ i < 14 by omega) ?_
      show post (some (0, 0, (-2147483648), 2147483647, M 22 i)) M
      exact k1
theorem cx_23_25 {b : Bool} {A : Nat → Nat} {h0 : g_H} {d : Nat} {M : xa_M} {post : Option xa_V → xa_M → Prop} {l1 u1 : Int} {i : Int} (h1 : 0 ≤ i ∧ i < 14) (k1 : post (some (0, 0, (-2147483648), 2147483647, M 25 i)) M) : xa_C (xl_I b) A h0 (d + 1) 23 [(2, 25, 0, 0, 0), (0, 0, l1, u1, i)] M post := by
  refine xa_C_arg [(2, 25, 0, 0, 0), (0, 0, (-2147483648), 2147483647, i)] (xa_svR (xa_svI (fun _ _ _ _ => by omega) xa_sv0)) ?_
  refine xa_meth (Q0 := (2, 1, false, 0, 0, 11)) (by decide +kernel) ⟨rfl, rfl⟩ (full := s_c_23) rfl rfl ?_
  intro hM hv Q hgo
  refine hgo.1 15 [] 0 _ _ _ ?_
  refine And.intro ?_ ?_
  · intro (c1 : i < 0)
    show post (some (0, 0, 0, 0, 0)) M
    exact absurd h1 (by omega)
  · intro (c1 : 0 ≤ i)
    refine And.intro ?_ ?_
    · intro (c2 : 14 ≤ i)
      show post (some (0, 0, 0, 0, 0)) M
      exact absurd h1 (by omega)
    · intro (c2 : i < 14)
      refine And.intro (show 0 ≤ i ∧ i < 14 by omega) ?_
      show post (some (0, 0, (-2147483648), 2147483647, M 25 i)) M
      exact k1
theorem cx_52_26 {b : Bool} {A : Nat → Nat} {h0 : g_H} {d : Nat} {M : xa_M} {post : Option xa_V → xa_M → Prop} {l1 u1 : Int} {i : Int} (h1 : 0 ≤ i ∧ i < 14) (k1 : post (some (1, 0, (-9223372036854775808), 9223372036854775807, M 26 i)) M) : xa_C (xl_I b) A h0 (d + 1) 52 [(2, 26, 0, 0, 0), (0, 0, l1, u1, i)] M post := by
  refine xa_C_arg [(2, 26, 0, 0, 0), (0, 0, (-2147483648), 2147483647, i)] (xa_svR (xa_svI (fun _ _ _ _ => by omega) xa_sv0)) ?_
  refine xa_meth (Q0 := (2, 3, false, 0, 0, 11)) (by decide +kernel) ⟨rfl, rfl⟩ (full := s_c_52) rfl rfl ?_
  intro hM hv Q hgo
  refine hgo.1 15 [] 0 _ _ _ ?_
  refine And.intro ?_ ?_
  · intro (c1 : i < 0)
    show post (some (1, 0, 0, 0, 0)) M
    exact absurd h1 (by omega)
  · intro (c1 : 0 ≤ i)
    refine And.intro ?_ ?_
    · intro (c2 : 14 ≤ i)
      show post (some (1, 0, 0, 0, 0)) M
      exact absurd h1 (by omega)
    · intro (c2 : i < 14)
      refine And.intro (show 0 ≤ i ∧ i < 14 by omega) ?_
      show post (some (1, 0, (-9223372036854775808), 9223372036854775807, M 26 i)) M
      exact k1
theorem cx_48_26 {b : Bool} {A : Nat → Nat} {h0 : g_H} {d : Nat} {M : xa_M} {post : Option xa_V → xa_M → Prop} {l1 u1 l2 u2 : Int} {i v : Int} (h1 : 0 ≤ i ∧ i < 14) (k1 : post none (xa_up M 26 i v)) : xa_C (xl_I b) A h0 (d + 1) 48 [(2, 26, 0, 0, 0), (0, 0, l1, u1, i), (1, 0, l2, u2, v)] M post := by
  refine xa_C_arg [(2, 26, 0, 0, 0), (0, 0, (-2147483648), 2147483647, i), (1, 0, (-9223372036854775808), 9223372036854775807, v)] (xa_svR (xa_svI (fun _ _ _ _ => by omega) (xa_svL (fun _ _ _ _ => by omega) xa_sv0))) ?_
  refine xa_meth (Q0 := (4, 0, false, 0, 0, 11)) (by decide +kernel) ⟨rfl, rfl⟩ (full := s_c_48) rfl rfl ?_
  intro hM hv Q hgo
  refine hgo.1 15 [] 0 _ _ _ ?_
  refine And.intro ?_ ?_
  · intro (c1 : i < 0)
    show post none M
    exact absurd h1 (by omega)
  · intro (c1 : 0 ≤ i)
    refine And.intro ?_ ?_
    · intro (c2 : 14 ≤ i)
      show post none M
      exact absurd h1 (by omega)
    · intro (c2 : i < 14)
      refine And.intro (show 0 ≤ i ∧ i < 14 by omega) ?_
      show post none (xa_up M 26 i v)
      exact k1
theorem cx_52_27 {b : Bool} {A : Nat → Nat} {h0 : g_H} {d : Nat} {M : xa_M} {post : Option xa_V → xa_M → Prop} {l1 u1 : Int} {i : Int} (h1 : 0 ≤ i ∧ i < 14) (k1 : post (some (1, 0, (-9223372036854775808), 9223372036854775807, M 27 i)) M) : xa_C (xl_I b) A h0 (d + 1) 52 [(2, 27, 0, 0, 0), (0, 0, l1, u1, i)] M post := by
  refine xa_C_arg [(2, 27, 0, 0, 0), (0, 0, (-2147483648), 2147483647, i)] (xa_svR (xa_svI (fun _ _ _ _ => by omega) xa_sv0)) ?_
  refine xa_meth (Q0 := (2, 3, false, 0, 0, 11)) (by decide +kernel) ⟨rfl, rfl⟩ (full := s_c_52) rfl rfl ?_
  intro hM hv Q hgo
  refine hgo.1 15 [] 0 _ _ _ ?_
  refine And.intro ?_ ?_
  · intro (c1 : i < 0)
    show post (some (1, 0, 0, 0, 0)) M
    exact absurd h1 (by omega)
  · intro (c1 : 0 ≤ i)
    refine And.intro ?_ ?_
    · intro (c2 : 14 ≤ i)
      show post (some (1, 0, 0, 0, 0)) M
      exact absurd h1 (by omega)
    · intro (c2 : i < 14)
      refine And.intro (show 0 ≤ i ∧ i < 14 by omega) ?_
      show post (some (1, 0, (-9223372036854775808), 9223372036854775807, M 27 i)) M
      exact k1
theorem cx_48_27 {b : Bool} {A : Nat → Nat} {h0 : g_H} {d : Nat} {M : xa_M} {post : Option xa_V → xa_M → Prop} {l1 u1 l2 u2 : Int} {i v : Int} (h1 : 0 ≤ i ∧ i < 14) (k1 : post none (xa_up M 27 i v)) : xa_C (xl_I b) A h0 (d + 1) 48 [(2, 27, 0, 0, 0), (0, 0, l1, u1, i), (1, 0, l2, u2, v)] M post := by
  refine xa_C_arg [(2, 27, 0, 0, 0), (0, 0, (-2147483648), 2147483647, i), (1, 0, (-9223372036854775808), 9223372036854775807, v)] (xa_svR (xa_svI (fun _ _ _ _ => by omega) (xa_svL (fun _ _ _ _ => by omega) xa_sv0))) ?_
  refine xa_meth (Q0 := (4, 0, false, 0, 0, 11)) (by decide +kernel) ⟨rfl, rfl⟩ (full := s_c_48) rfl rfl ?_
  intro hM hv Q hgo
  refine hgo.1 15 [] 0 _ _ _ ?_
  refine And.intro ?_ ?_
  · intro (c1 : i < 0)
    show post none M
    exact absurd h1 (by omega)
  · intro (c1 : 0 ≤ i)
    refine And.intro ?_ ?_
    · intro (c2 : 14 ≤ i)
      show post none M
      exact absurd h1 (by omega)
    · intro (c2 : i < 14)
      refine And.intro (show 0 ≤ i ∧ i < 14 by omega) ?_
      show post none (xa_up M 27 i v)
      exact k1
theorem cx_94f {b : Bool} {A : Nat → Nat} {h0 : g_H} {d : Nat} {M : xa_M} {post : Option xa_V → xa_M → Prop} {l1 u1 i : Int} (hi : 0 ≤ i ∧ i ≤ 12) (hu : M 26 i = fs_u (M 22) (M 25) i.toNat ∧ M 27 i = fs_d (M 22) (M 25) i.toNat) (hB : ((0 ≤ fs_u (M 22) (M 25) i.toNat ∧ fs_u (M 22) (M 25) i.toNat ≤ 1638400000000000000) ∧ (0 ≤ fs_d (M 22) (M 25) i.toNat ∧ fs_d (M 22) (M 25) i.toNat ≤ 1638400000000000000)) ∧ (0 ≤ fs_u (M 22) (M 25) (i + 1).toNat ∧ fs_u (M 22) (M 25) (i + 1).toNat ≤ 1638400000000000000) ∧ (0 ≤ fs_d (M 22) (M 25) (i + 1).toNat ∧ fs_d (M 22) (M 25) (i + 1).toNat ≤ 1638400000000000000)) (k : post none (xa_up (xa_up M 26 (i + 1) (fs_u (M 22) (M 25) (i + 1).toNat)) 27 (i + 1) (fs_d (M 22) (M 25) (i + 1).toNat))) : xa_C (xl_I b) A h0 (d + 2) 94 [(2, 15, 0, 0, 0), (0, 0, l1, u1, i)] M post := by
  refine xa_C_arg [(2, 15, 0, 0, 0), (0, 0, 0, 12, i)] (xa_svR (xa_svI (fun _ _ _ _ => by omega) xa_sv0)) ?_
  refine xa_meth (Q0 := (5, 0, false, 0, 0, 3)) (by decide +kernel) ⟨rfl, rfl⟩ (full := s_c_94) rfl rfl ?_
  intro hM hv Q hgo
  refine hgo.1 46 [] 0 _ _ _ ?_
  show xa_C (xl_I b) A h0 _ 23 [(2, 22, 0, 0, 0), (0, 0, 0, 12, i)] M _
  refine cx_23_22 (show 0 ≤ i ∧ i < 14 by omega) ?_
  show xa_C (xl_I b) A h0 _ 23 [(2, 25, 0, 0, 0), (0, 0, 0, 12, i)] M _
  refine cx_23_25 (show 0 ≤ i ∧ i < 14 by omega) ?_
  show xa_C (xl_I b) A h0 _ 52 [(2, 26, 0, 0, 0), (0, 0, 0, 12, i)] M _
  refine cx_52_26 (show 0 ≤ i ∧ i < 14 by omega) ?_
  refine And.intro ?_ ?_
  · intro (c1 : (M 22 i) ≤ 0)
    show xa_C (xl_I b) A h0 _ 48 [(2, 26, 0, 0, 0), (0, 0, 1, 13, i + 1), (1, 0, (-9223372036854775808), 9223372036854775807, (M 26 i) * 1)] M _
    refine cx_48_26 (show 0 ≤ (i + 1) ∧ (i + 1) < 14 by omega) ?_
    show xa_C (xl_I b) A h0 _ 52 [(2, 27, 0, 0, 0), (0, 0, 0, 12, i)] (xa_up M 26 (i + 1) ((M 26 i) * 1)) _
    refine cx_52_27 (show 0 ≤ i ∧ i < 14 by omega) ?_
    refine And.intro ?_ ?_
    · intro (c2 : 0 ≤ (M 22 i))
      show xa_C (xl_I b) A h0 _ 48 [(2, 27, 0, 0, 0), (0, 0, 1, 13, i + 1), (1, 0, (-9223372036854775808), 9223372036854775807, (M 27 i) * 1)] (xa_up M 26 (i + 1) ((M 26 i) * 1)) _
      refine cx_48_27 (show 0 ≤ (i + 1) ∧ (i + 1) < 14 by omega) ?_
      show post none (xa_up (xa_up M 26 (i + 1) ((M 26 i) * 1)) 27 (i + 1) ((M 27 i) * 1))
      have e1 : (M 26 i) * 1 = fs_u (M 22) (M 25) (i + 1).toNat := by
        rw [fb_u1 hi.1, if_neg (by omega), ← hu.1, Int.mul_one]
      have e2 : (M 27 i) * 1 = fs_d (M 22) (M 25) (i + 1).toNat := by
        rw [fb_d1 hi.1, if_neg (by omega), ← hu.2, Int.mul_one]
      rw [e1, e2]
      exact k
    · intro (c2 : (M 22 i) < 0)
      show xa_C (xl_I b) A h0 _ 48 [(2, 27, 0, 0, 0), (0, 0, 1, 13, i + 1), (1, 0, (-9223372036854775808), 9223372036854775807, xa_w64 ((M 27 i) * (M 25 i)))] (xa_up M 26 (i + 1) ((M 26 i) * 1)) _
      refine cx_48_27 (show 0 ≤ (i + 1) ∧ (i + 1) < 14 by omega) ?_
      show post none (xa_up (xa_up M 26 (i + 1) ((M 26 i) * 1)) 27 (i + 1) (xa_w64 ((M 27 i) * (M 25 i))))
      have e1 : (M 26 i) * 1 = fs_u (M 22) (M 25) (i + 1).toNat := by
        rw [fb_u1 hi.1, if_neg (by omega), ← hu.1, Int.mul_one]
      have e2 : xa_w64 ((M 27 i) * (M 25 i)) = fs_d (M 22) (M 25) (i + 1).toNat := by
        rw [fb_d1 hi.1, if_pos c2, ← hu.2] at hB
        rw [fb_d1 hi.1, if_pos c2, ← hu.2]
        exact xa_w64_id (by omega) (by omega)
      rw [e1, e2]
      exact k
  · intro (c1 : 0 < (M 22 i))
    show xa_C (xl_I b) A h0 _ 48 [(2, 26, 0, 0, 0), (0, 0, 1, 13, i + 1), (1, 0, (-9223372036854775808), 9223372036854775807, xa_w64 ((M 26 i) * (M 25 i)))] M _
    refine cx_48_26 (show 0 ≤ (i + 1) ∧ (i + 1) < 14 by omega) ?_
    show xa_C (xl_I b) A h0 _ 52 [(2, 27, 0, 0, 0), (0, 0, 0, 12, i)] (xa_up M 26 (i + 1) (xa_w64 ((M 26 i) * (M 25 i)))) _
    refine cx_52_27 (show 0 ≤ i ∧ i < 14 by omega) ?_
    refine And.intro ?_ ?_
    · intro (c3 : 0 ≤ (M 22 i))
      show xa_C (xl_I b) A h0 _ 48 [(2, 27, 0, 0, 0), (0, 0, 1, 13, i + 1), (1, 0, (-9223372036854775808), 9223372036854775807, (M 27 i) * 1)] (xa_up M 26 (i + 1) (xa_w64 ((M 26 i) * (M 25 i)))) _
      refine cx_48_27 (show 0 ≤ (i + 1) ∧ (i + 1) < 14 by omega) ?_
      show post none (xa_up (xa_up M 26 (i + 1) (xa_w64 ((M 26 i) * (M 25 i)))) 27 (i + 1) ((M 27 i) * 1))
      have e1 : xa_w64 ((M 26 i) * (M 25 i)) = fs_u (M 22) (M 25) (i + 1).toNat := by
        rw [fb_u1 hi.1, if_pos c1, ← hu.1] at hB
        rw [fb_u1 hi.1, if_pos c1, ← hu.1]
        exact xa_w64_id (by omega) (by omega)
      have e2 : (M 27 i) * 1 = fs_d (M 22) (M 25) (i + 1).toNat := by
        rw [fb_d1 hi.1, if_neg (by omega), ← hu.2, Int.mul_one]
      rw [e1, e2]
      exact k
    · intro (c3 : (M 22 i) < 0)
      show xa_C (xl_I b) A h0 _ 48 [(2, 27, 0, 0, 0), (0, 0, 1, 13, i + 1), (1, 0, (-9223372036854775808), 9223372036854775807, xa_w64 ((M 27 i) * (M 25 i)))] (xa_up M 26 (i + 1) (xa_w64 ((M 26 i) * (M 25 i)))) _
      refine cx_48_27 (show 0 ≤ (i + 1) ∧ (i + 1) < 14 by omega) ?_
      show post none (xa_up (xa_up M 26 (i + 1) (xa_w64 ((M 26 i) * (M 25 i)))) 27 (i + 1) (xa_w64 ((M 27 i) * (M 25 i))))
      have e1 : xa_w64 ((M 26 i) * (M 25 i)) = fs_u (M 22) (M 25) (i + 1).toNat := by
        rw [fb_u1 hi.1, if_pos c1, ← hu.1] at hB
        rw [fb_u1 hi.1, if_pos c1, ← hu.1]
        exact xa_w64_id (by omega) (by omega)
      have e2 : xa_w64 ((M 27 i) * (M 25 i)) = fs_d (M 22) (M 25) (i + 1).toNat := by
        rw [fb_d1 hi.1, if_pos c3, ← hu.2] at hB
        rw [fb_d1 hi.1, if_pos c3, ← hu.2]
        exact xa_w64_id (by omega) (by omega)
      rw [e1, e2]
      exact k
theorem cx_23_23 {b : Bool} {A : Nat → Nat} {h0 : g_H} {d : Nat} {M : xa_M} {post : Option xa_V → xa_M → Prop} {l1 u1 : Int} {i : Int} (h1 : 0 ≤ i ∧ i < 14) (k1 : post (some (0, 0, (-2147483648), 2147483647, M 23 i)) M) : xa_C (xl_I b) A h0 (d + 1) 23 [(2, 23, 0, 0, 0), (0, 0, l1, u1, i)] M post := by
  refine xa_C_arg [(2, 23, 0, 0, 0), (0, 0, (-2147483648), 2147483647, i)] (xa_svR (xa_svI (fun _ _ _ _ => by omega) xa_sv0)) ?_
  refine xa_meth (Q0 := (2, 1, false, 0, 0, 11)) (by decide +kernel) ⟨rfl, rfl⟩ (full := s_c_23) rfl rfl ?_
  intro hM hv Q hgo
  refine hgo.1 15 [] 0 _ _ _ ?_
  refine And.intro ?_ ?_
  · intro (c1 : i < 0)
    show post (some (0, 0, 0, 0, 0)) M
    exact absurd h1 (by omega)
  · intro (c1 : 0 ≤ i)
    refine And.intro ?_ ?_
    · intro (c2 : 14 ≤ i)
      show post (some (0, 0, 0, 0, 0)) M
      exact absurd h1 (by omega)
    · intro (c2 : i < 14)
      refine And.intro (show 0 ≤ i ∧ i < 14 by omega) ?_
      show post (some (0, 0, (-2147483648), 2147483647, M 23 i)) M
      exact k1
theorem cx_18_25 {b : Bool} {A : Nat → Nat} {h0 : g_H} {d : Nat} {M : xa_M} {post : Option xa_V → xa_M → Prop} {l1 u1 l2 u2 : Int} {i v : Int} (h1 : 0 ≤ i ∧ i < 14) (k1 : post none (xa_up M 25 i v)) : xa_C (xl_I b) A h0 (d + 1) 18 [(2, 25, 0, 0, 0), (0, 0, l1, u1, i), (0, 0, l2, u2, v)] M post := by
  refine xa_C_arg [(2, 25, 0, 0, 0), (0, 0, (-2147483648), 2147483647, i), (0, 0, (-2147483648), 2147483647, v)] (xa_svR (xa_svI (fun _ _ _ _ => by omega) (xa_svI (fun _ _ _ _ => by omega) xa_sv0))) ?_
  refine xa_meth (Q0 := (3, 0, false, 0, 0, 11)) (by decide +kernel) ⟨rfl, rfl⟩ (full := s_c_18) rfl rfl ?_
  intro hM hv Q hgo
  refine hgo.1 15 [] 0 _ _ _ ?_
  refine And.intro ?_ ?_
  · intro (c1 : i < 0)
    show post none M
    exact absurd h1 (by omega)
  · intro (c1 : 0 ≤ i)
    refine And.intro ?_ ?_
    · intro (c2 : 14 ≤ i)
      show post none M
      exact absurd h1 (by omega)
    · intro (c2 : i < 14)
      refine And.intro (show 0 ≤ i ∧ i < 14 by omega) ?_
      show post none (xa_up M 25 i v)
      exact k1
theorem cx_93f {b : Bool} {A : Nat → Nat} {h0 : g_H} {d : Nat} {M : xa_M} {post : Option xa_V → xa_M → Prop} {l1 u1 l2 u2 f l : Int} (hf : 0 ≤ f ∧ f ≤ l) (hl : l ≤ 13) (hB : fb_B (M 22) l) (hL : ∀ i : Int, 0 ≤ i → i < l → 0 ≤ M 23 i ∧ M 23 i ≤ 400) (hV : ∀ i : Int, 0 ≤ i → i < f → 0 ≤ M 25 i ∧ M 25 i ≤ 400) (hP : fb_P M f) (k : ∀ M1 : xa_M, (∀ q j, ¬ q = 25 → ¬ q = 26 → ¬ q = 27 → M1 q j = M q j) → (∀ j : Int, f ≤ j → j < l → M1 25 j = M 23 j) → (∀ j : Int, (j < f ∨ l ≤ j) → M1 25 j = M 25 j) → fb_P M1 l → post none M1) : xa_C (xl_I b) A h0 (d + 3) 93 [(2, 15, 0, 0, 0), (0, 0, l1, u1, f), (0, 0, l2, u2, l)] M post := by
  refine xa_C_arg [(2, 15, 0, 0, 0), (0, 0, 0, 13, f), (0, 0, 0, 13, l)] (xa_svR (xa_svI (fun _ _ _ _ => by omega) (xa_svI (fun _ _ _ _ => by omega) xa_sv0))) ?_
  refine xa_meth (Q0 := (4, 0, false, 0, 0, 3)) (by decide +kernel) ⟨rfl, rfl⟩ (full := s_c_93) rfl rfl ?_
  intro hM hv Q hgo
  have loop : ∀ (n : Nat) (x : Int) (M1 : xa_M), f ≤ x → x ≤ l → (∀ q j, ¬ q = 25 → ¬ q = 26 → ¬ q = 27 → M1 q j = M q j) → (∀ j : Int, f ≤ j → j < x → M1 25 j = M 23 j) → (∀ j : Int, (j < f ∨ x ≤ j) → M1 25 j = M 25 j) → fb_P M1 x → 13 - x < (n : Int) → Q 2 [(3, (0, 0, 0, 13, x)), (0, (2, 15, 0, 0, 0)), (2, (0, 0, 0, 13, l))] [] M1 := by
    intro n
    induction n with
    | zero => intro x M1 x0 x1 hk hlo hst hp hms; omega
    | succ n ih =>
      intro x M1 x0 x1 hk hlo hst hp hms
      have r22 : M1 22 = M 22 := funext (fun j => hk 22 j (by decide) (by decide) (by decide))
      refine hgo.1 21 [2] 2 _ _ _ ?_
      refine And.intro ?_ ?_
      · intro (c1 : l ≤ x)
        show post none M1
        exact k M1 hk (fun j j0 j1 => hlo j j0 (by omega)) (fun j hj => hst j (by omega)) (fun j j0 j1 => hp j j0 (by omega))
      · intro (c1 : x < l)
        show xa_C (xl_I b) A h0 _ 23 [(2, 23, 0, 0, 0), (0, 0, 0, 13, x)] M1 _
        refine cx_23_23 (show 0 ≤ x ∧ x < 14 by omega) ?_
        show xa_C (xl_I b) A h0 _ 18 [(2, 25, 0, 0, 0), (0, 0, 0, 13, x), (0, 0, (-2147483648), 2147483647, M1 23 x)] M1 _
        refine cx_18_25 (show 0 ≤ x ∧ x < 14 by omega) ?_
        have hu2 := fb_us (v := M1 23 x) (show 0 ≤ x by omega) hp
        have hB2 := fb_bs (v := M1 23 x) (show 0 ≤ x by omega) (show x < l by omega) (show fb_B (M1 22) l by rw [r22]; exact hB) (fun i i0 i1 => by
          by_cases e2 : i < f
          · rw [hst i (Or.inl e2)]
            exact hV i i0 e2
          · rw [hlo i (by omega) (by omega)]
            exact hL i i0 (by omega)) (by rw [hk 23 x (by decide) (by decide) (by decide)]; exact hL x (by omega) (by omega))
        show xa_C (xl_I b) A h0 _ 94 [(2, 15, 0, 0, 0), (0, 0, 0, 13, x)] (xa_up M1 25 x (M1 23 x)) _
        refine cx_94f (show 0 ≤ x ∧ x ≤ 12 by omega) hu2 hB2 ?_
        show Q 2 [(3, (0, 0, 1, 14, x + 1)), (0, (2, 15, 0, 0, 0)), (2, (0, 0, 0, 13, l))] [] (xa_up (xa_up (xa_up M1 25 x (M1 23 x)) 26 (x + 1) (fs_u ((xa_up M1 25 x (M1 23 x)) 22) ((xa_up M1 25 x (M1 23 x)) 25) (x + 1).toNat)) 27 (x + 1) (fs_d ((xa_up M1 25 x (M1 23 x)) 22) ((xa_up M1 25 x (M1 23 x)) 25) (x + 1).toNat))
        refine hgo.2.1 2 _ [(3, (0, 0, 0, 13, x + 1)), (0, (2, 15, 0, 0, 0)), (2, (0, 0, 0, 13, l))] _ _ (xa_subI rfl rfl (fun _ _ _ _ => by omega) (xa_subR rfl (xa_subI rfl rfl (fun _ _ _ _ => by omega) (xa_sub0)))) ?_
        exact ih (x + 1) (fb_M M1 x (M1 23 x)) (by omega) (by omega) (fun q j h1 h2 h3 => (fb_Mk h1 h2 h3).trans (hk q j h1 h2 h3)) (fun j j0 j1 => by
          by_cases e : j = x
          · rw [e, fb_Mi]
            exact hk 23 x (by decide) (by decide) (by decide)
          · rw [fb_Mj e]
            exact hlo j j0 (by omega)) (fun j hj => (fb_Mj (by omega)).trans (hst j (by omega))) (fb_MP (by omega) hp) (by omega)
  refine hgo.1 7 [2] 0 _ _ _ ?_
  show Q 2 [(3, (0, 0, 0, 13, f)), (0, (2, 15, 0, 0, 0)), (1, (0, 0, 0, 13, f)), (2, (0, 0, 0, 13, l))] [] M
  refine hgo.2.1 2 _ [(3, (0, 0, 0, 13, f)), (0, (2, 15, 0, 0, 0)), (2, (0, 0, 0, 13, l))] _ _ (xa_subI rfl rfl (fun _ _ _ _ => by omega) (xa_subR rfl (xa_subI rfl rfl (fun _ _ _ _ => by omega) (xa_sub0)))) ?_
  exact loop 14 f M (by omega) (by omega) (fun _ _ _ _ _ => rfl) (fun j j0 j1 => by omega) (fun _ _ => rfl) hP (by omega)
theorem cx_23_24 {b : Bool} {A : Nat → Nat} {h0 : g_H} {d : Nat} {M : xa_M} {post : Option xa_V → xa_M → Prop} {l1 u1 : Int} {i : Int} (h1 : 0 ≤ i ∧ i < 14) (k1 : post (some (0, 0, 0, 400, M 24 i)) M) : xa_C (xl_I b) A h0 (d + 1) 23 [(2, 24, 0, 0, 0), (0, 0, l1, u1, i)] M post := by
  refine xa_C_arg [(2, 24, 0, 0, 0), (0, 0, (-2147483648), 2147483647, i)] (xa_svR (xa_svI (fun _ _ _ _ => by omega) xa_sv0)) ?_
  refine xa_meth (Q0 := (2, 1, false, 0, 0, 11)) (by decide +kernel) ⟨rfl, rfl⟩ (full := s_c_23) rfl rfl ?_
  intro hM hv Q hgo
  refine hgo.1 15 [] 0 _ _ _ ?_
  refine And.intro ?_ ?_
  · intro (c1 : i < 0)
    show post (some (0, 0, 0, 0, 0)) M
    exact absurd h1 (by omega)
  · intro (c1 : 0 ≤ i)
    refine And.intro ?_ ?_
    · intro (c2 : 14 ≤ i)
      show post (some (0, 0, 0, 0, 0)) M
      exact absurd h1 (by omega)
    · intro (c2 : i < 14)
      refine And.intro (show 0 ≤ i ∧ i < 14 by omega) ?_
      show post (some (0, 0, 0, 400, M 24 i)) M
      exact k1
theorem cx_92f {b : Bool} {A : Nat → Nat} {h0 : g_H} {d : Nat} {M : xa_M} {post : Option xa_V → xa_M → Prop} {l1 u1 l : Int} (hl : 0 ≤ l ∧ l ≤ 13) (hB : fb_B (M 22) l) (hL : ∀ i : Int, 0 ≤ i → i < l → 0 ≤ M 23 i ∧ M 23 i ≤ M 24 i ∧ M 24 i ≤ 400) (h01 : M 15 13 = 0 ∨ M 15 13 = 1) (hV : M 15 13 = 1 → ∀ i : Int, 0 ≤ i → i < l → M 23 i ≤ M 25 i ∧ M 25 i ≤ M 24 i) (hP : M 15 13 = 1 → fb_P M l) (k1 : ∀ M1 : xa_M, M 15 13 = 0 → (∀ q j, ¬ q = 25 → ¬ q = 26 → ¬ q = 27 → ¬ (q = 15 ∧ j = 13) → M1 q j = M q j) → M1 15 13 = 1 → (∀ j : Int, 0 ≤ j → j < l → M1 25 j = M 23 j) → (∀ j : Int, l ≤ j → M1 25 j = M 25 j) → fb_P M1 l → post (some (0, 0, 0, 1, 1)) M1) (k2 : ∀ M1 : xa_M, M 15 13 = 1 → (∀ q j, ¬ q = 25 → ¬ q = 26 → ¬ q = 27 → ¬ (q = 15 ∧ j = 13) → M1 q j = M q j) → M1 15 13 = 1 → (∃ x : Int, 0 ≤ x ∧ x < l ∧ (∀ j : Int, 0 ≤ j → j < x → M1 25 j = M 25 j) ∧ M 25 x < M 24 x ∧ M1 25 x = M 25 x + 1 ∧ ∀ j : Int, x < j → j < l → M 25 j = M 24 j ∧ M1 25 j = M 23 j) → (∀ j : Int, l ≤ j → M1 25 j = M 25 j) → fb_P M1 l → post (some (0, 0, 0, 1, 1)) M1) (k0 : M 15 13 = 1 → (∀ j : Int, 0 ≤ j → j < l → M 25 j = M 24 j) → post (some (0, 0, 0, 1, 0)) M) : xa_C (xl_I b) A h0 (d + 4) 92 [(2, 15, 0, 0, 0), (0, 0, l1, u1, l)] M post := by
  refine xa_C_wk ?_
  refine xa_C_arg [(2, 15, 0, 0, 0), (0, 0, 0, 13, l)] (xa_svR (xa_svI (fun _ _ _ _ => by omega) xa_sv0)) ?_
  refine xa_meth (Q0 := (3, 2, false, 0, 0, 3)) (by decide +kernel) ⟨rfl, rfl⟩ (full := s_c_92) rfl rfl ?_
  intro hM hv Q hgo
  have loop : M 15 13 = 1 → ∀ (n : Nat) (i : Int), -1 ≤ i → i < l → (∀ j : Int, i < j → j < l → M 25 j = M 24 j) → i + 1 < (n : Int) → Q 42 [(2, (0, 0, (-1), 12, i)), (0, (2, 15, 0, 0, 0)), (1, (0, 0, 0, 13, l))] [] M := by
    intro c9 n
    have h13 := c9
    have hV := hV c9
    have hP := hP c9
    induction n with
    | zero => intro i i0 i1 hH hms; omega
    | succ n ih =>
      intro i i0 i1 hH hms
      refine hgo.1 36 [42] 42 _ _ _ ?_
      refine And.intro ?_ ?_
      · intro (c1 : i < 0)
        show xa_wk post (some (0, 0, 0, 0, 0)) M
        exact xa_wkI 0 rfl (fun _ _ => by omega) (k0 c9 (fun j j0 j1 => hH j (by omega) (by omega)))
      · intro (c1 : 0 ≤ i)
        have y8 := hV i (by omega) (by omega)
        have y9 := hL i (by omega) (by omega)
        show xa_C (xl_I b) A h0 _ 23 [(2, 25, 0, 0, 0), (0, 0, (-1), 12, i)] M _
        refine cx_23_25 (show 0 ≤ i ∧ i < 14 by omega) ?_
        show xa_C (xl_I b) A h0 _ 23 [(2, 24, 0, 0, 0), (0, 0, (-1), 12, i)] M _
        refine cx_23_24 (show 0 ≤ i ∧ i < 14 by omega) ?_
        refine And.intro ?_ ?_
        · intro (c2 : (M 24 i) ≤ (M 25 i))
          show Q 42 [(2, (0, 0, (-2), 11, i + (-1))), (0, (2, 15, 0, 0, 0)), (1, (0, 0, 0, 13, l))] [] M
          have y1 := hV i (by omega) (by omega)
          refine hgo.2.1 42 _ [(2, (0, 0, (-1), 12, i + (-1))), (0, (2, 15, 0, 0, 0)), (1, (0, 0, 0, 13, l))] _ _ (xa_subI rfl rfl (fun _ _ _ _ => by omega) (xa_subR rfl (xa_subI rfl rfl (fun _ _ _ _ => by omega) (xa_sub0)))) ?_
          exact ih (i + (-1)) (by omega) (by omega) (fun j j0 j1 => by
            by_cases e : j = i
            · rw [e]
              omega
            · exact hH j (by omega) j1) (by omega)
        · intro (c2 : (M 25 i) < (M 24 i))
          show xa_C (xl_I b) A h0 _ 23 [(2, 25, 0, 0, 0), (0, 0, (-1), 12, i)] M _
          refine cx_23_25 (show 0 ≤ i ∧ i < 14 by omega) ?_
          show xa_C (xl_I b) A h0 _ 18 [(2, 25, 0, 0, 0), (0, 0, (-1), 12, i), (0, 0, (-2147483648), 2147483647, xa_w32 ((M 25 i) + 1))] M _
          refine cx_18_25 (show 0 ≤ i ∧ i < 14 by omega) ?_
          have w9 : xa_w32 ((M 25 i) + 1) = M 25 i + 1 := xa_w32_id (by omega) (by omega)
          have hu2 := fb_us (v := xa_w32 ((M 25 i) + 1)) (show 0 ≤ i by omega) (fun j j0 j1 => hP j j0 (by omega))
          have hB2 := fb_bs (v := xa_w32 ((M 25 i) + 1)) (show 0 ≤ i by omega) (show i < l by omega) hB (fun j j0 j1 => by have := hV j j0 (by omega); have := hL j j0 (by omega); omega) (by omega)
          show xa_C (xl_I b) A h0 _ 94 [(2, 15, 0, 0, 0), (0, 0, (-1), 12, i)] (xa_up M 25 i (xa_w32 ((M 25 i) + 1))) _
          refine cx_94f (show 0 ≤ i ∧ i ≤ 12 by omega) hu2 hB2 ?_
          have z22 : (fb_M M i (xa_w32 ((M 25 i) + 1))) 22 = M 22 := funext (fun j => fb_Mk (by decide) (by decide) (by decide))
          have z23 : (fb_M M i (xa_w32 ((M 25 i) + 1))) 23 = M 23 := funext (fun j => fb_Mk (by decide) (by decide) (by decide))
          have hB3 : fb_B ((fb_M M i (xa_w32 ((M 25 i) + 1))) 22) l := by rw [z22]; exact hB
          have hL3 : ∀ j : Int, 0 ≤ j → j < l → 0 ≤ (fb_M M i (xa_w32 ((M 25 i) + 1))) 23 j ∧ (fb_M M i (xa_w32 ((M 25 i) + 1))) 23 j ≤ 400 := by rw [z23]; exact fun j j0 j1 => ⟨(hL j j0 j1).1, by have := hL j j0 j1; omega⟩
          have hV3 : ∀ j : Int, 0 ≤ j → j < i + 1 → 0 ≤ (fb_M M i (xa_w32 ((M 25 i) + 1))) 25 j ∧ (fb_M M i (xa_w32 ((M 25 i) + 1))) 25 j ≤ 400 := fun j j0 j1 => by
            have y1 := hV j j0 (by omega)
            have y2 := hL j j0 (by omega)
            by_cases e : j = i
            · rw [e, fb_Mi]
              rw [e] at y1 y2
              omega
            · rw [fb_Mj e]
              omega
          have hP3 : fb_P (fb_M M i (xa_w32 ((M 25 i) + 1))) (i + 1) := fb_MP (by omega) (fun j j0 j1 => hP j j0 (by omega))
          show xa_C (xl_I b) A h0 _ 93 [(2, 15, 0, 0, 0), (0, 0, 0, 13, i + 1), (0, 0, 0, 13, l)] (xa_up (xa_up (xa_up M 25 i (xa_w32 ((M 25 i) + 1))) 26 (i + 1) (fs_u ((xa_up M 25 i (xa_w32 ((M 25 i) + 1))) 22) ((xa_up M 25 i (xa_w32 ((M 25 i) + 1))) 25) (i + 1).toNat)) 27 (i + 1) (fs_d ((xa_up M 25 i (xa_w32 ((M 25 i) + 1))) 22) ((xa_up M 25 i (xa_w32 ((M 25 i) + 1))) 25) (i + 1).toNat)) _
          refine cx_93f (show 0 ≤ (i + 1) ∧ (i + 1) ≤ l by omega) (by omega) hB3 hL3 hV3 hP3 ?_
          intro M101 (i3 : ∀ q j, ¬ q = 25 → ¬ q = 26 → ¬ q = 27 → M101 q j = (xa_up (xa_up (xa_up M 25 i (xa_w32 ((M 25 i) + 1))) 26 (i + 1) (fs_u ((xa_up M 25 i (xa_w32 ((M 25 i) + 1))) 22) ((xa_up M 25 i (xa_w32 ((M 25 i) + 1))) 25) (i + 1).toNat)) 27 (i + 1) (fs_d ((xa_up M 25 i (xa_w32 ((M 25 i) + 1))) 22) ((xa_up M 25 i (xa_w32 ((M 25 i) + 1))) 25) (i + 1).toNat)) q j) (i4 : ∀ j : Int, (i + 1) ≤ j → j < l → M101 25 j = (xa_up (xa_up (xa_up M 25 i (xa_w32 ((M 25 i) + 1))) 26 (i + 1) (fs_u ((xa_up M 25 i (xa_w32 ((M 25 i) + 1))) 22) ((xa_up M 25 i (xa_w32 ((M 25 i) + 1))) 25) (i + 1).toNat)) 27 (i + 1) (fs_d ((xa_up M 25 i (xa_w32 ((M 25 i) + 1))) 22) ((xa_up M 25 i (xa_w32 ((M 25 i) + 1))) 25) (i + 1).toNat)) 23 j) (i5 : ∀ j : Int, (j < (i + 1) ∨ l ≤ j) → M101 25 j = (xa_up (xa_up (xa_up M 25 i (xa_w32 ((M 25 i) + 1))) 26 (i + 1) (fs_u ((xa_up M 25 i (xa_w32 ((M 25 i) + 1))) 22) ((xa_up M 25 i (xa_w32 ((M 25 i) + 1))) 25) (i + 1).toNat)) 27 (i + 1) (fs_d ((xa_up M 25 i (xa_w32 ((M 25 i) + 1))) 22) ((xa_up M 25 i (xa_w32 ((M 25 i) + 1))) 25) (i + 1).toNat)) 25 j) (i6 : fb_P M101 l)
          show xa_wk post (some (0, 0, 1, 1, 1)) M101
          exact xa_wkI 1 rfl (fun _ _ => by omega) (k2 M101 c9 (fun q j h1 h2 h3 h4 => (i3 q j h1 h2 h3).trans (fb_Mk h1 h2 h3)) ((i3 15 13 (by decide) (by decide) (by decide)).trans ((fb_Mk (by decide) (by decide) (by decide)).trans h13)) ⟨i, by omega, by omega, fun j j0 j1 => (i5 j (Or.inl (by omega))).trans (fb_Mj (by omega)), by omega, (i5 i (Or.inl (by omega))).trans (fb_Mi.trans w9), fun j j0 j1 => ⟨hH j (by omega) j1, (i4 j (by omega) j1).trans (fb_Mk (by decide) (by decide) (by decide))⟩⟩ (fun j hj => (i5 j (Or.inr hj)).trans (fb_Mj (by omega))) i6)
  refine hgo.1 26 [42] 0 _ _ _ ?_
  refine And.intro ?_ ?_
  · intro (c1 : ¬ (M 15 13) = 0)
    show Q 42 [(2, (0, 0, (-1), 12, l - 1)), (0, (2, 15, 0, 0, 0)), (1, (0, 0, 0, 13, l))] [] M
    refine hgo.2.1 42 _ [(2, (0, 0, (-1), 12, l - 1)), (0, (2, 15, 0, 0, 0)), (1, (0, 0, 0, 13, l))] _ _ (xa_subI rfl rfl (fun _ _ _ _ => by omega) (xa_subR rfl (xa_subI rfl rfl (fun _ _ _ _ => by omega) (xa_sub0)))) ?_
    exact loop (by omega) 14 _ (by omega) (by omega) (fun j j0 j1 => by omega) (by omega)
  · intro (c1 : (M 15 13) = 0)
    have c9 : M 15 13 = 0 := c1
    show xa_C (xl_I b) A h0 _ 48 [(2, 26, 0, 0, 0), (0, 0, 0, 0, 0), (1, 0, 1, 1, 1)] (xa_up M 15 13 1) _
    refine cx_48_26 (show 0 ≤ 0 ∧ 0 < 14 by omega) ?_
    show xa_C (xl_I b) A h0 _ 48 [(2, 27, 0, 0, 0), (0, 0, 0, 0, 0), (1, 0, 1, 1, 1)] (xa_up (xa_up M 15 13 1) 26 0 1) _
    refine cx_48_27 (show 0 ≤ 0 ∧ 0 < 14 by omega) ?_
    have z22 : (xa_up (xa_up (xa_up M 15 13 1) 26 0 1) 27 0 1) 22 = M 22 := funext (fun j => (xa_up_ne (by omega)).trans ((xa_up_ne (by omega)).trans (xa_up_ne (by omega))))
    have z23 : (xa_up (xa_up (xa_up M 15 13 1) 26 0 1) 27 0 1) 23 = M 23 := funext (fun j => (xa_up_ne (by omega)).trans ((xa_up_ne (by omega)).trans (xa_up_ne (by omega))))
    have hB3 : fb_B ((xa_up (xa_up (xa_up M 15 13 1) 26 0 1) 27 0 1) 22) l := by rw [z22]; exact hB
    have hL3 : ∀ i : Int, 0 ≤ i → i < l → 0 ≤ (xa_up (xa_up (xa_up M 15 13 1) 26 0 1) 27 0 1) 23 i ∧ (xa_up (xa_up (xa_up M 15 13 1) 26 0 1) 27 0 1) 23 i ≤ 400 := by rw [z23]; exact fun i i0 i1 => ⟨(hL i i0 i1).1, by have := hL i i0 i1; omega⟩
    have hV3 : ∀ i : Int, 0 ≤ i → i < 0 → 0 ≤ (xa_up (xa_up (xa_up M 15 13 1) 26 0 1) 27 0 1) 25 i ∧ (xa_up (xa_up (xa_up M 15 13 1) 26 0 1) 27 0 1) 25 i ≤ 400 := fun i i0 i1 => by omega
    have hP3 : fb_P (xa_up (xa_up (xa_up M 15 13 1) 26 0 1) 27 0 1) 0 := fun j j0 j1 => by
      have e : j = 0 := by omega
      rw [e]
      exact ⟨(xa_up_ne (by omega)).trans xa_up_eq, xa_up_eq⟩
    show xa_C (xl_I b) A h0 _ 93 [(2, 15, 0, 0, 0), (0, 0, 0, 0, 0), (0, 0, 0, 13, l)] (xa_up (xa_up (xa_up M 15 13 1) 26 0 1) 27 0 1) _
    refine cx_93f (show 0 ≤ 0 ∧ 0 ≤ l by omega) (by omega) hB3 hL3 hV3 hP3 ?_
    intro M102 (i2 : ∀ q j, ¬ q = 25 → ¬ q = 26 → ¬ q = 27 → M102 q j = (xa_up (xa_up (xa_up M 15 13 1) 26 0 1) 27 0 1) q j) (i3 : ∀ j : Int, 0 ≤ j → j < l → M102 25 j = (xa_up (xa_up (xa_up M 15 13 1) 26 0 1) 27 0 1) 23 j) (i4 : ∀ j : Int, (j < 0 ∨ l ≤ j) → M102 25 j = (xa_up (xa_up (xa_up M 15 13 1) 26 0 1) 27 0 1) 25 j) (i5 : fb_P M102 l)
    show xa_wk post (some (0, 0, 1, 1, 1)) M102
    exact xa_wkI 1 rfl (fun _ _ => by omega) (k1 M102 c9 (fun q j h1 h2 h3 h4 => (i2 q j h1 h2 h3).trans ((xa_up_ne (by omega)).trans ((xa_up_ne (by omega)).trans (xa_up_ne (by omega))))) ((i2 15 13 (by decide) (by decide) (by decide)).trans ((xa_up_ne (by omega)).trans ((xa_up_ne (by omega)).trans xa_up_eq))) (fun j j0 j1 => (i3 j j0 j1).trans ((xa_up_ne (by omega)).trans ((xa_up_ne (by omega)).trans (xa_up_ne (by omega))))) (fun j hj => (i4 j (Or.inr hj)).trans ((xa_up_ne (by omega)).trans ((xa_up_ne (by omega)).trans (xa_up_ne (by omega))))) i5)
theorem cx_97f {b : Bool} {A : Nat → Nat} {h0 : g_H} {d : Nat} {M : xa_M} {post : Option xa_V → xa_M → Prop} {l1 u1 l2 u2 x y : Int} (hx : 1 ≤ x ∧ x ≤ 9223372036854775807) (hy : 0 ≤ y ∧ y ≤ 9223372036854775807) (k1 : x ∣ y → post (some (0, 0, 1, 1, 1)) M) (k2 : ¬ x ∣ y → post (some (0, 0, 0, 0, 0)) M) : xa_C (xl_I b) A h0 (d + 1) 97 [(1, 0, l1, u1, x), (1, 0, l2, u2, y)] M post := by
  refine xa_C_arg [(1, 0, 1, 9223372036854775807, x), (1, 0, 0, 9223372036854775807, y)] (xa_svL (fun _ _ _ _ => by omega) (xa_svL (fun _ _ _ _ => by omega) xa_sv0)) ?_
  refine xa_meth (Q0 := (4, 2, false, 0, 0, 11)) (by decide +kernel) ⟨rfl, rfl⟩ (full := s_c_97) rfl rfl ?_
  intro hM hv Q hgo
  refine hgo.1 15 [] 0 _ _ _ ?_
  refine And.intro ?_ ?_
  · intro (c1 : ¬ (y % x) = 0)
    show post (some (0, 0, 0, 0, 0)) M
    exact k2 (fun h => by have := Int.emod_eq_zero_of_dvd h; omega)
  · intro (c1 : (y % x) = 0)
    show post (some (0, 0, 1, 1, 1)) M
    exact k1 (Int.dvd_of_emod_eq_zero (by omega))
theorem cx_21g {b : Bool} {A : Nat → Nat} {h0 : g_H} {d : Nat} {M : xa_M} {post : Option xa_V → xa_M → Prop} {l1 u1 l2 u2 x y : Int} (hx : 0 ≤ x ∧ x ≤ 1638400000000000000) (hy : 1 ≤ y ∧ y ≤ 9223372036854775807) (k : post (some (1, 0, 0, 1638400000000000000, x / y)) M) : xa_C (xl_I b) A h0 (d + 1) 21 [(1, 0, l1, u1, x), (1, 0, l2, u2, y)] M post := by
  refine xa_C_wk ?_
  refine xa_C_arg [(1, 0, 0, 1638400000000000000, x), (1, 0, 1, 9223372036854775807, y)] (xa_svL (fun _ _ _ _ => by omega) (xa_svL (fun _ _ _ _ => by omega) xa_sv0)) ?_
  refine xa_meth (Q0 := (4, 3, false, 0, 0, 11)) (by decide +kernel) ⟨rfl, rfl⟩ (full := s_c_21) rfl rfl ?_
  intro hM hv Q hgo
  have q0 := Int.ediv_nonneg (show 0 ≤ x by omega) (show 0 ≤ y by omega)
  have q1 := Int.ediv_le_self y (show 0 ≤ x by omega)
  refine hgo.1 11 [] 0 _ _ _ ?_
  show xa_wk post (some (1, 0, 0, 1638400000000000000, x / y)) M
  exact xa_wkL (x / y) rfl (fun _ _ => by omega) k
theorem cx_96f {b0 : Bool} {A : Nat → Nat} {h0 : g_H} {d : Nat} {M : xa_M} {post : Option xa_V → xa_M → Prop} {l1 u1 l2 u2 l3 u3 l4 u4 a b c d9 : Int} (ha : 0 ≤ a ∧ a ≤ 1638400000000000000) (hb : 1 ≤ b ∧ b ≤ 2000) (hc : 1 ≤ c ∧ c ≤ 2000) (hd : 1 ≤ d9 ∧ d9 ≤ 1638400000000000000) (k : ∀ r : Int, (¬ b ∣ a ∧ r = 0) ∨ (b ∣ a ∧ 1638400000000000000 / c < a / b ∧ r = 0) ∨ (b ∣ a ∧ a / b ≤ 1638400000000000000 / c ∧ ¬ d9 ∣ a / b * c ∧ r = 0) ∨ (b ∣ a ∧ a / b ≤ 1638400000000000000 / c ∧ d9 ∣ a / b * c ∧ r = a / b * c / d9) → (0 ≤ r ∧ r ≤ 1638400000000000000) → post (some (1, 0, 0, 1638400000000000000, r)) M) : xa_C (xl_I b0) A h0 (d + 2) 96 [(1, 0, l1, u1, a), (1, 0, l2, u2, b), (1, 0, l3, u3, c), (1, 0, l4, u4, d9)] M post := by
  refine xa_C_wk ?_
  refine xa_C_arg [(1, 0, 0, 1638400000000000000, a), (1, 0, 1, 2000, b), (1, 0, 1, 2000, c), (1, 0, 1, 1638400000000000000, d9)] (xa_svL (fun _ _ _ _ => by omega) (xa_svL (fun _ _ _ _ => by omega) (xa_svL (fun _ _ _ _ => by omega) (xa_svL (fun _ _ _ _ => by omega) xa_sv0)))) ?_
  refine xa_meth (Q0 := (10, 3, false, 0, 0, 3)) (by decide +kernel) ⟨rfl, rfl⟩ (full := s_c_96) rfl rfl ?_
  intro hM hv Q hgo
  have p0 := Int.ediv_nonneg (show 0 ≤ a by omega) (show 0 ≤ b by omega)
  have p1 := Int.ediv_le_self b (show 0 ≤ a by omega)
  have p2 := Int.ediv_nonneg (show (0 : Int) ≤ 1638400000000000000 by decide) (show 0 ≤ c by omega)
  have p3 := Int.ediv_le_self c (show (0 : Int) ≤ 1638400000000000000 by decide)
  refine hgo.1 30 [] 0 _ _ _ ?_
  show xa_C (xl_I b0) A h0 _ 97 [(1, 0, 1, 2000, b), (1, 0, 0, 1638400000000000000, a)] M _
  refine cx_97f (by omega) (by omega) ?_ ?_
  · intro (i1 : b ∣ a)
    show xa_C (xl_I b0) A h0 _ 21 [(1, 0, 0, 1638400000000000000, a), (1, 0, 1, 2000, b)] M _
    refine cx_21g (by omega) (by omega) ?_
    show xa_C (xl_I b0) A h0 _ 21 [(1, 0, 1638400000000000000, 1638400000000000000, 1638400000000000000), (1, 0, 1, 2000, c)] M _
    refine cx_21g (by omega) (by omega) ?_
    refine And.intro ?_ ?_
    · intro (c2 : (a / b) ≤ (1638400000000000000 / c))
      have m1 := Int.ediv_mul_le 1638400000000000000 (show c ≠ 0 by omega)
      have m2 := Int.mul_le_mul_of_nonneg_right (show a / b ≤ 1638400000000000000 / c by omega) (show 0 ≤ c by omega)
      have m3 := Int.mul_nonneg (show 0 ≤ a / b by omega) (show 0 ≤ c by omega)
      have e9 : xa_w64 ((a / b) * c) = a / b * c := xa_w64_id (by omega) (by omega)
      show xa_C (xl_I b0) A h0 _ 97 [(1, 0, 1, 1638400000000000000, d9), (1, 0, (-9223372036854775808), 9223372036854775807, xa_w64 ((a / b) * c))] M _
      refine cx_97f (by omega) (by omega) ?_ ?_
      · intro (i3 : d9 ∣ (xa_w64 ((a / b) * c)))
        show xa_C (xl_I b0) A h0 _ 21 [(1, 0, (-9223372036854775808), 9223372036854775807, xa_w64 ((a / b) * c)), (1, 0, 1, 1638400000000000000, d9)] M _
        refine cx_21g (by omega) (by omega) ?_
        show xa_wk post (some (1, 0, 0, 1638400000000000000, (xa_w64 ((a / b) * c)) / d9)) M
        rw [e9] at i3
        have q0 := Int.ediv_nonneg (show 0 ≤ a / b * c by omega) (show 0 ≤ d9 by omega)
        have q1 := Int.ediv_le_self d9 (show 0 ≤ a / b * c by omega)
        exact xa_wkL (a / b * c / d9) (by rw [e9]) (fun _ _ => by omega) (k _ (Or.inr (Or.inr (Or.inr ⟨i1, by omega, i3, rfl⟩))) (by omega))
      · intro (i4 : ¬ d9 ∣ (xa_w64 ((a / b) * c)))
        show xa_wk post (some (1, 0, 0, 0, 0)) M
        rw [e9] at i4
        exact xa_wkL 0 rfl (fun _ _ => by omega) (k 0 (Or.inr (Or.inr (Or.inl ⟨i1, by omega, i4, rfl⟩))) (by omega))
    · intro (c2 : (1638400000000000000 / c) < (a / b))
      show xa_wk post (some (1, 0, 0, 0, 0)) M
      exact xa_wkL 0 rfl (fun _ _ => by omega) (k 0 (Or.inr (Or.inl ⟨i1, by omega, rfl⟩)) (by omega))
  · intro (i5 : ¬ b ∣ a)
    show xa_wk post (some (1, 0, 0, 0, 0)) M
    exact xa_wkL 0 rfl (fun _ _ => by omega) (k 0 (Or.inl ⟨i5, rfl⟩) (by omega))
/-- teeth t of the last wheel fit -/
def fb_T (U D ρ dn up t : Int) : Prop := U * (if 0 < ρ then t else 1) * dn = D * (if ρ < 0 then t else 1) * up
theorem fb_T0 {U D ρ dn up t : Int} (h : ρ = 0) : fb_T U D ρ dn up t ↔ U * 1 * dn = D * up := by
  unfold fb_T
  rw [if_neg (by omega), if_neg (by omega), Int.mul_one D]
theorem fb_Tp {U D ρ dn up t : Int} (h : 0 < ρ) : fb_T U D ρ dn up t ↔ U * t * dn = D * up := by
  unfold fb_T
  rw [if_pos h, if_neg (by omega), Int.mul_one D]
theorem fb_Tn {U D ρ dn up t : Int} (h : ρ < 0) : fb_T U D ρ dn up t ↔ D * t * up = U * dn := by
  unfold fb_T
  rw [if_neg (by omega), if_pos h, Int.mul_one U]
  exact ⟨Eq.symm, Eq.symm⟩
theorem cx_95f {b : Bool} {A : Nat → Nat} {h0 : g_H} {d : Nat} {M : xa_M} {post : Option xa_V → xa_M → Prop} {l1 u1 l : Int} (hl : 0 ≤ l ∧ l ≤ 13) (hU : 1 ≤ M 26 l ∧ M 26 l ≤ 1638400000000000000) (hD : 1 ≤ M 27 l ∧ M 27 l ≤ 1638400000000000000) (hup : 1 ≤ M 15 11 ∧ M 15 11 ≤ 2000) (hdn : 1 ≤ M 15 12 ∧ M 15 12 ≤ 2000) (hg : Int.gcd (M 15 12) (M 15 11) = 1) (hL : 1 ≤ M 23 l ∧ M 23 l ≤ M 24 l ∧ M 24 l ≤ 400) (hUt : 0 < M 22 l → ∀ t : Int, 0 ≤ t → t ≤ 400 → M 26 l * t ≤ 1638400000000000000) (hDt : M 22 l < 0 → ∀ t : Int, 0 ≤ t → t ≤ 400 → M 27 l * t ≤ 1638400000000000000) (k1 : ∀ t : Int, (M 23 l ≤ t ∧ t ≤ M 24 l) → fb_T (M 26 l) (M 27 l) (M 22 l) (M 15 12) (M 15 11) t → (M 22 l = 0 → t = M 23 l) → (¬ M 22 l = 0 → ∀ t' : Int, (M 23 l ≤ t' ∧ t' ≤ M 24 l) → fb_T (M 26 l) (M 27 l) (M 22 l) (M 15 12) (M 15 11) t' → t' = t) → post (some (0, 0, 1, 1, 1)) (xa_up M 25 l t)) (k0 : ∀ M1 : xa_M, (∀ q j, ¬ (q = 25 ∧ j = l) → M1 q j = M q j) → (∀ t : Int, (M 23 l ≤ t ∧ t ≤ M 24 l) → ¬ fb_T (M 26 l) (M 27 l) (M 22 l) (M 15 12) (M 15 11) t) → post (some (0, 0, 0, 0, 0)) M1) : xa_C (xl_I b) A h0 (d + 3) 95 [(2, 15, 0, 0, 0), (0, 0, l1, u1, l)] M post := by
  refine xa_C_arg [(2, 15, 0, 0, 0), (0, 0, 0, 13, l)] (xa_svR (xa_svI (fun _ _ _ _ => by omega) xa_sv0)) ?_
  refine xa_meth (Q0 := (9, 2, false, 0, 0, 3)) (by decide +kernel) ⟨rfl, rfl⟩ (full := s_c_95) rfl rfl ?_
  intro hM hv Q hgo
  refine hgo.1 54 [] 0 _ _ _ ?_
  show xa_C (xl_I b) A h0 _ 52 [(2, 26, 0, 0, 0), (0, 0, 0, 13, l)] M _
  refine cx_52_26 (show 0 ≤ l ∧ l < 14 by omega) ?_
  show xa_C (xl_I b) A h0 _ 52 [(2, 27, 0, 0, 0), (0, 0, 0, 13, l)] M _
  refine cx_52_27 (show 0 ≤ l ∧ l < 14 by omega) ?_
  show xa_C (xl_I b) A h0 _ 23 [(2, 22, 0, 0, 0), (0, 0, 0, 13, l)] M _
  refine cx_23_22 (show 0 ≤ l ∧ l < 14 by omega) ?_
  refine And.intro ?_ ?_
  · intro (c1 : ¬ (M 22 l) = 0)
    refine And.intro ?_ ?_
    · intro (c2 : (M 22 l) ≤ 0)
      show xa_C (xl_I b) A h0 _ 96 [(1, 0, (-9223372036854775808), 9223372036854775807, M 26 l), (1, 0, (-9223372036854775808), 9223372036854775807, M 15 11), (1, 0, (-9223372036854775808), 9223372036854775807, M 15 12), (1, 0, (-9223372036854775808), 9223372036854775807, M 27 l)] M _
      refine cx_96f (by omega) (by omega) (by omega) (by omega) ?_
      intro r103 (i3 : (¬ (M 15 11) ∣ (M 26 l) ∧ r103 = 0) ∨ ((M 15 11) ∣ (M 26 l) ∧ 1638400000000000000 / (M 15 12) < (M 26 l) / (M 15 11) ∧ r103 = 0) ∨ ((M 15 11) ∣ (M 26 l) ∧ (M 26 l) / (M 15 11) ≤ 1638400000000000000 / (M 15 12) ∧ ¬ (M 27 l) ∣ (M 26 l) / (M 15 11) * (M 15 12) ∧ r103 = 0) ∨ ((M 15 11) ∣ (M 26 l) ∧ (M 26 l) / (M 15 11) ≤ 1638400000000000000 / (M 15 12) ∧ (M 27 l) ∣ (M 26 l) / (M 15 11) * (M 15 12) ∧ r103 = (M 26 l) / (M 15 11) * (M 15 12) / (M 27 l))) (i4 : 0 ≤ r103 ∧ r103 ≤ 1638400000000000000)
      show xa_C (xl_I b) A h0 _ 23 [(2, 23, 0, 0, 0), (0, 0, 0, 13, l)] M _
      refine cx_23_23 (show 0 ≤ l ∧ l < 14 by omega) ?_
      refine And.intro ?_ ?_
      · intro (c5 : r103 < (M 23 l))
        show post (some (0, 0, 0, 0, 0)) M
        have c8 : (M 22 l) < 0 := by omega
        have z9 := fun (t : Int) (t0 : 1 ≤ t) (t1 : t ≤ 400) => fs_mi (t := t) (m := 1638400000000000000) hU.1 hup.1 hdn.1 hD.1 (by rw [Int.gcd_comm]; exact hg) t0 (hDt c8 t (by omega) t1) i3
        exact k0 _ (fun q j h => rfl) (fun t t9 h => by
          have e := (z9 t (by omega) (by omega)).mp ((fb_Tn c8).mp h)
          omega)
      · intro (c5 : (M 23 l) ≤ r103)
        show xa_C (xl_I b) A h0 _ 23 [(2, 24, 0, 0, 0), (0, 0, 0, 13, l)] M _
        refine cx_23_24 (show 0 ≤ l ∧ l < 14 by omega) ?_
        refine And.intro ?_ ?_
        · intro (c6 : r103 ≤ (M 24 l))
          show xa_C (xl_I b) A h0 _ 18 [(2, 25, 0, 0, 0), (0, 0, 0, 13, l), (0, 0, (-2147483648), 2147483647, xa_w32 r103)] M _
          refine cx_18_25 (show 0 ≤ l ∧ l < 14 by omega) ?_
          show post (some (0, 0, 1, 1, 1)) (xa_up M 25 l (xa_w32 r103))
          have c8 : (M 22 l) < 0 := by omega
          have z9 := fun (t : Int) (t0 : 1 ≤ t) (t1 : t ≤ 400) => fs_mi (t := t) (m := 1638400000000000000) hU.1 hup.1 hdn.1 hD.1 (by rw [Int.gcd_comm]; exact hg) t0 (hDt c8 t (by omega) t1) i3
          have w9 : xa_w32 r103 = r103 := xa_w32_id (by omega) (by omega)
          rw [w9]
          exact k1 r103 (by omega) ((fb_Tn c8).mpr ((z9 r103 (by omega) (by omega)).mpr rfl)) (fun h => by omega) (fun _ t t9 h => ((z9 t (by omega) (by omega)).mp ((fb_Tn c8).mp h)).symm)
        · intro (c6 : (M 24 l) < r103)
          show post (some (0, 0, 0, 0, 0)) M
          have c8 : (M 22 l) < 0 := by omega
          have z9 := fun (t : Int) (t0 : 1 ≤ t) (t1 : t ≤ 400) => fs_mi (t := t) (m := 1638400000000000000) hU.1 hup.1 hdn.1 hD.1 (by rw [Int.gcd_comm]; exact hg) t0 (hDt c8 t (by omega) t1) i3
          exact k0 _ (fun q j h => rfl) (fun t t9 h => by
            have e := (z9 t (by omega) (by omega)).mp ((fb_Tn c8).mp h)
            omega)
    · intro (c2 : 0 < (M 22 l))
      show xa_C (xl_I b) A h0 _ 96 [(1, 0, (-9223372036854775808), 9223372036854775807, M 27 l), (1, 0, (-9223372036854775808), 9223372036854775807, M 15 12), (1, 0, (-9223372036854775808), 9223372036854775807, M 15 11), (1, 0, (-9223372036854775808), 9223372036854775807, M 26 l)] M _
      refine cx_96f (by omega) (by omega) (by omega) (by omega) ?_
      intro r104 (i7 : (¬ (M 15 12) ∣ (M 27 l) ∧ r104 = 0) ∨ ((M 15 12) ∣ (M 27 l) ∧ 1638400000000000000 / (M 15 11) < (M 27 l) / (M 15 12) ∧ r104 = 0) ∨ ((M 15 12) ∣ (M 27 l) ∧ (M 27 l) / (M 15 12) ≤ 1638400000000000000 / (M 15 11) ∧ ¬ (M 26 l) ∣ (M 27 l) / (M 15 12) * (M 15 11) ∧ r104 = 0) ∨ ((M 15 12) ∣ (M 27 l) ∧ (M 27 l) / (M 15 12) ≤ 1638400000000000000 / (M 15 11) ∧ (M 26 l) ∣ (M 27 l) / (M 15 12) * (M 15 11) ∧ r104 = (M 27 l) / (M 15 12) * (M 15 11) / (M 26 l))) (i8 : 0 ≤ r104 ∧ r104 ≤ 1638400000000000000)
      show xa_C (xl_I b) A h0 _ 23 [(2, 23, 0, 0, 0), (0, 0, 0, 13, l)] M _
      refine cx_23_23 (show 0 ≤ l ∧ l < 14 by omega) ?_
      refine And.intro ?_ ?_
      · intro (c9 : r104 < (M 23 l))
        show post (some (0, 0, 0, 0, 0)) M
        have c8 : 0 < (M 22 l) := by omega
        have z9 := fun (t : Int) (t0 : 1 ≤ t) (t1 : t ≤ 400) => fs_mi (t := t) (m := 1638400000000000000) hD.1 hdn.1 hup.1 hU.1 hg t0 (hUt c8 t (by omega) t1) i7
        exact k0 _ (fun q j h => rfl) (fun t t9 h => by
          have e := (z9 t (by omega) (by omega)).mp ((fb_Tp c8).mp h)
          omega)
      · intro (c9 : (M 23 l) ≤ r104)
        show xa_C (xl_I b) A h0 _ 23 [(2, 24, 0, 0, 0), (0, 0, 0, 13, l)] M _
        refine cx_23_24 (show 0 ≤ l ∧ l < 14 by omega) ?_
        refine And.intro ?_ ?_
        · intro (c10 : r104 ≤ (M 24 l))
          show xa_C (xl_I b) A h0 _ 18 [(2, 25, 0, 0, 0), (0, 0, 0, 13, l), (0, 0, (-2147483648), 2147483647, xa_w32 r104)] M _
          refine cx_18_25 (show 0 ≤ l ∧ l < 14 by omega) ?_
          show post (some (0, 0, 1, 1, 1)) (xa_up M 25 l (xa_w32 r104))
          have c8 : 0 < (M 22 l) := by omega
          have z9 := fun (t : Int) (t0 : 1 ≤ t) (t1 : t ≤ 400) => fs_mi (t := t) (m := 1638400000000000000) hD.1 hdn.1 hup.1 hU.1 hg t0 (hUt c8 t (by omega) t1) i7
          have w9 : xa_w32 r104 = r104 := xa_w32_id (by omega) (by omega)
          rw [w9]
          exact k1 r104 (by omega) ((fb_Tp c8).mpr ((z9 r104 (by omega) (by omega)).mpr rfl)) (fun h => by omega) (fun _ t t9 h => ((z9 t (by omega) (by omega)).mp ((fb_Tp c8).mp h)).symm)
        · intro (c10 : (M 24 l) < r104)
          show post (some (0, 0, 0, 0, 0)) M
          have c8 : 0 < (M 22 l) := by omega
          have z9 := fun (t : Int) (t0 : 1 ≤ t) (t1 : t ≤ 400) => fs_mi (t := t) (m := 1638400000000000000) hD.1 hdn.1 hup.1 hU.1 hg t0 (hUt c8 t (by omega) t1) i7
          exact k0 _ (fun q j h => rfl) (fun t t9 h => by
            have e := (z9 t (by omega) (by omega)).mp ((fb_Tp c8).mp h)
            omega)
  · intro (c1 : (M 22 l) = 0)
    show xa_C (xl_I b) A h0 _ 96 [(1, 0, (-9223372036854775808), 9223372036854775807, M 27 l), (1, 0, (-9223372036854775808), 9223372036854775807, M 15 12), (1, 0, (-9223372036854775808), 9223372036854775807, M 15 11), (1, 0, (-9223372036854775808), 9223372036854775807, M 26 l)] M _
    refine cx_96f (by omega) (by omega) (by omega) (by omega) ?_
    intro r105 (i11 : (¬ (M 15 12) ∣ (M 27 l) ∧ r105 = 0) ∨ ((M 15 12) ∣ (M 27 l) ∧ 1638400000000000000 / (M 15 11) < (M 27 l) / (M 15 12) ∧ r105 = 0) ∨ ((M 15 12) ∣ (M 27 l) ∧ (M 27 l) / (M 15 12) ≤ 1638400000000000000 / (M 15 11) ∧ ¬ (M 26 l) ∣ (M 27 l) / (M 15 12) * (M 15 11) ∧ r105 = 0) ∨ ((M 15 12) ∣ (M 27 l) ∧ (M 27 l) / (M 15 12) ≤ 1638400000000000000 / (M 15 11) ∧ (M 26 l) ∣ (M 27 l) / (M 15 12) * (M 15 11) ∧ r105 = (M 27 l) / (M 15 12) * (M 15 11) / (M 26 l))) (i12 : 0 ≤ r105 ∧ r105 ≤ 1638400000000000000)
    refine And.intro ?_ ?_
    · intro (c13 : ¬ r105 = 1)
      show xa_C (xl_I b) A h0 _ 23 [(2, 24, 0, 0, 0), (0, 0, 0, 13, l)] M _
      refine cx_23_24 (show 0 ≤ l ∧ l < 14 by omega) ?_
      show xa_C (xl_I b) A h0 _ 18 [(2, 25, 0, 0, 0), (0, 0, 0, 13, l), (0, 0, 0, 400, M 24 l)] M _
      refine cx_18_25 (show 0 ≤ l ∧ l < 14 by omega) ?_
      show post (some (0, 0, 0, 0, 0)) (xa_up M 25 l (M 24 l))
      have z9 := fs_mi (t := 1) (m := 1638400000000000000) hD.1 hdn.1 hup.1 hU.1 hg (by decide) (by omega) i11
      exact k0 _ (fun q j h => xa_up_ne h) (fun t t9 h => c13 (z9.mp ((fb_T0 c1).mp h)))
    · intro (c13 : r105 = 1)
      show xa_C (xl_I b) A h0 _ 23 [(2, 23, 0, 0, 0), (0, 0, 0, 13, l)] M _
      refine cx_23_23 (show 0 ≤ l ∧ l < 14 by omega) ?_
      show xa_C (xl_I b) A h0 _ 18 [(2, 25, 0, 0, 0), (0, 0, 0, 13, l), (0, 0, (-2147483648), 2147483647, M 23 l)] M _
      refine cx_18_25 (show 0 ≤ l ∧ l < 14 by omega) ?_
      show post (some (0, 0, 1, 1, 1)) (xa_up M 25 l (M 23 l))
      have z9 := fs_mi (t := 1) (m := 1638400000000000000) hD.1 hdn.1 hup.1 hU.1 hg (by decide) (by omega) i11
      exact k1 (M 23 l) (by omega) ((fb_T0 c1).mpr (z9.mpr c13)) (fun _ => rfl) (fun h => absurd c1 h)
theorem fb_Bm {R : Int → Int} {s s' : Int} (h : fb_B R s) (hs : s' ≤ s) : fb_B R s' := fun V n hn hV => h V n (by omega) hV
theorem fa_bl {L H R V : Int → Int} {z a b t : Int} (hz : 0 ≤ z) (hV : fs_in L H V z.toNat) (ht : L z ≤ t ∧ t ≤ H z) : fs_F L H R (z + 1).toNat a b (fs_rk L H V z.toNat * (H z - L z + 1) + (t - L z)) ↔ fb_T (fs_u R V z.toNat) (fs_d R V z.toNat) (R z) a b t := by
  have ez : ((z.toNat : Nat) : Int) = z := Int.toNat_of_nonneg hz
  have h := fs_bl (R := R) (l := z.toNat) (a := a) (b := b) (t := t) hV (by rw [ez]; exact ht)
  rw [ez] at h
  rw [show (z + 1).toNat = z.toNat + 1 by omega]
  exact h
theorem fa_rk {L H V : Int → Int} {z : Int} (hz : 0 ≤ z) : fs_rk L H V (z + 1).toNat = fs_rk L H V z.toNat * (H z - L z + 1) + (V z - L z) := by
  have ez : ((z.toNat : Nat) : Int) = z := Int.toNat_of_nonneg hz
  rw [show (z + 1).toNat = z.toNat + 1 by omega]
  show fs_rk L H V z.toNat * (H ((z.toNat : Nat) : Int) - L ((z.toNat : Nat) : Int) + 1) + (V ((z.toNat : Nat) : Int) - L ((z.toNat : Nat) : Int)) = _
  rw [ez]
theorem fa_pr {L H : Int → Int} {z : Int} (hz : 0 ≤ z) : fs_pr L H (z + 1).toNat = fs_pr L H z.toNat * (H z - L z + 1) := by
  have ez : ((z.toNat : Nat) : Int) = z := Int.toNat_of_nonneg hz
  rw [show (z + 1).toNat = z.toNat + 1 by omega]
  show fs_pr L H z.toNat * (H ((z.toNat : Nat) : Int) - L ((z.toNat : Nat) : Int) + 1) = _
  rw [ez]
theorem fa_c {F : Int → Prop} {a b : Int} (h0 : 0 ≤ a) (h1 : a ≤ b) (h : ∀ k : Int, a ≤ k → k < b → ¬ F k) : fs_c F b.toNat = fs_c F a.toNat := by
  rw [show b.toNat = a.toNat + (b.toNat - a.toNat) by omega]
  exact fs_cn _ (fun k k0 k1 => h k (by omega) (by omega))
theorem fa_c1 {F : Int → Prop} {a : Int} (h0 : 0 ≤ a) (h : F a) : fs_c F (a + 1).toNat = fs_c F a.toNat + 1 := by
  rw [show (a + 1).toNat = a.toNat + 1 by omega]
  exact fs_c1 (by rw [Int.toNat_of_nonneg h0]; exact h)
/-- nothing of a block fits -/
theorem fa_none {F : Int → Prop} {q lo hi n : Int} (hq : 0 ≤ q * (hi - lo + 1)) (hh : lo ≤ hi) (hn : fs_c F (q * (hi - lo + 1)).toNat = n) (h : ∀ t : Int, lo ≤ t ∧ t ≤ hi → ¬ F (q * (hi - lo + 1) + (t - lo))) : fs_c F ((q + 1) * (hi - lo + 1)).toNat = n := by
  rw [Int.add_mul, Int.one_mul, ← hn]
  refine fa_c hq (by omega) (fun k k0 k1 => ?_)
  have g := h (k - q * (hi - lo + 1) + lo) (by omega)
  rw [show q * (hi - lo + 1) + (k - q * (hi - lo + 1) + lo - lo) = k by omega] at g
  exact g
/-- the first of a block that fits -/
theorem fa_some {F : Int → Prop} {q lo hi n t : Int} (hq : 0 ≤ q * (hi - lo + 1)) (ht : lo ≤ t ∧ t ≤ hi) (hn : fs_c F (q * (hi - lo + 1)).toNat = n) (h : ∀ t' : Int, lo ≤ t' ∧ t' < t → ¬ F (q * (hi - lo + 1) + (t' - lo))) : fs_c F (q * (hi - lo + 1) + (t - lo)).toNat = n := by
  rw [← hn]
  refine fa_c hq (by omega) (fun k k0 k1 => ?_)
  have g := h (k - q * (hi - lo + 1) + lo) (by omega)
  rw [show q * (hi - lo + 1) + (k - q * (hi - lo + 1) + lo - lo) = k by omega] at g
  exact g
/-- behind it nothing fits -/
theorem fa_rest {F : Int → Prop} {q lo hi n t : Int} (hq : 0 ≤ q * (hi - lo + 1)) (ht : lo ≤ t ∧ t ≤ hi) (hn : fs_c F (q * (hi - lo + 1) + (t - lo) + 1).toNat = n) (h : ∀ t' : Int, t < t' ∧ t' ≤ hi → ¬ F (q * (hi - lo + 1) + (t' - lo))) : fs_c F ((q + 1) * (hi - lo + 1)).toNat = n := by
  rw [Int.add_mul, Int.one_mul, ← hn]
  refine fa_c (by omega) (by omega) (fun k k0 k1 => ?_)
  have g := h (k - q * (hi - lo + 1) + lo) (by omega)
  rw [show q * (hi - lo + 1) + (k - q * (hi - lo + 1) + lo - lo) = k by omega] at g
  exact g
/-- n have been found; z: the last wheel's place; F: what fits -/
def fa_S (L H R : Int → Int) (dn up : Int) (F : Int → Prop) (M : xa_M) (z n : Int) : Prop := (M 15 13 = 0 ∧ n = 0) ∨ (M 15 13 = 1 ∧ fs_in L H (M 25) z.toNat ∧ fb_P M z ∧ ((R z = 0 ∧ M 25 z < H z ∧ L z ≤ M 25 z ∧ fb_T (fs_u R (M 25) z.toNat) (fs_d R (M 25) z.toNat) (R z) dn up (L z) ∧ fs_c F (fs_rk L H (M 25) z.toNat * (H z - L z + 1) + (M 25 z - L z) + 1).toNat = n) ∨ (¬ (R z = 0 ∧ M 25 z < H z) ∧ fs_c F ((fs_rk L H (M 25) z.toNat + 1) * (H z - L z + 1)).toNat = n)))
/-- so many steps on, what lies behind has no more -/
def fa_U (L H : Int → Int) (F : Int → Prop) (M : xa_M) (z n x : Int) : Prop := (M 15 13 = 0 ∧ n = 0 ∧ x = 0) ∨ (M 15 13 = 1 ∧ fs_in L H (M 25) z.toNat ∧ fb_P M z ∧ x ≤ fs_rk L H (M 25) z.toNat + 1 ∧ fs_c F ((fs_rk L H (M 25) z.toNat + 1) * (H z - L z + 1)).toNat = n)
theorem fb_pos {R V : Int → Int} (n : Nat) (h : ∀ i : Int, 0 ≤ i → i < n → 1 ≤ V i ∧ V i ≤ 400) : 1 ≤ fs_u R V n ∧ 1 ≤ fs_d R V n := by
  induction n with
  | zero => exact ⟨Int.le_refl 1, Int.le_refl 1⟩
  | succ n ih =>
    obtain ⟨a, b⟩ := ih (fun i i0 i1 => h i i0 (by omega))
    have c := h n (by omega) (by omega)
    rw [fs_u1, fs_d1]
    have m1 := Int.mul_le_mul a (show (1 : Int) ≤ (if 0 < R n then V n else 1) by split <;> omega) (by decide) (by omega)
    have m2 := Int.mul_le_mul b (show (1 : Int) ≤ (if R n < 0 then V n else 1) by split <;> omega) (by decide) (by omega)
    rw [Int.one_mul] at m1 m2
    exact ⟨m1, m2⟩
theorem fb_last {R V : Int → Int} {z t : Int} (hz : 0 ≤ z) (hB : fb_B R (z + 1)) (bV : ∀ i : Int, 0 ≤ i → i < z.toNat → 1 ≤ V i ∧ V i ≤ 400) (t0 : 0 ≤ t) (t1 : t ≤ 400) : (0 < R z → fs_u R V z.toNat * t ≤ 1638400000000000000) ∧ (R z < 0 → fs_d R V z.toNat * t ≤ 1638400000000000000) := by
  obtain ⟨V1, hv, hl⟩ : ∃ V1 : Int → Int, (∀ i : Int, 0 ≤ i → i < z → V1 i = V i) ∧ V1 z = t := ⟨fun i => if i = z then t else V i, fun i i0 i1 => if_neg (by omega), if_pos rfl⟩
  have g := hB V1 (z + 1).toNat (by omega) (fun i i0 i1 => by
    by_cases e : i = z
    · rw [e, hl]
      exact ⟨t0, t1⟩
    · rw [hv i i0 (by omega)]
      have := bV i i0 (by omega)
      omega)
  rw [fb_u1 hz, fb_d1 hz, fb_ue hv, fb_de hv, hl] at g
  refine ⟨fun c => ?_, fun c => ?_⟩
  · rw [if_pos c] at g
    exact g.1.2
  · rw [if_pos c] at g
    exact g.2.2
theorem fb_Pz {X Y : xa_M} {z : Int} (h : ∀ q j, ¬ (q = 25 ∧ j = z) → Y q j = X q j) (hp : fb_P X z) : fb_P Y z := fun j j0 j1 => by
  have e22 : Y 22 = X 22 := funext (fun i => h 22 i (fun e => absurd e.1 (by decide)))
  have eV : ∀ i : Int, 0 ≤ i → i < j → Y 25 i = X 25 i := fun i i0 i1 => h 25 i (by omega)
  rw [fb_ue eV, fb_de eV, e22, h 26 j (fun e => absurd e.1 (by decide)), h 27 j (fun e => absurd e.1 (by decide))]
  exact hp j j0 j1
theorem fa_fnd {M X : xa_M} {z n t : Int} {F : Int → Prop} (hz : 0 ≤ z) (hF : F = fs_F (M 23) (M 24) (M 22) (z + 1).toNat (M 15 12) (M 15 11)) (h13 : X 15 13 = 1) (inX : fs_in (M 23) (M 24) (X 25) z.toNat) (pX : fb_P X z) (ht : M 23 z ≤ t ∧ t ≤ M 24 z) (hT : fb_T (fs_u (M 22) (X 25) z.toNat) (fs_d (M 22) (X 25) z.toNat) (M 22 z) (M 15 12) (M 15 11) t) (cn : fs_c F (fs_rk (M 23) (M 24) (X 25) z.toNat * (M 24 z - M 23 z + 1) + (t - M 23 z)).toNat = n) (hrest : ¬ (M 22 z = 0 ∧ t < M 24 z) → ∀ t' : Int, t < t' ∧ t' ≤ M 24 z → ¬ F (fs_rk (M 23) (M 24) (X 25) z.toNat * (M 24 z - M 23 z + 1) + (t' - M 23 z))) : fs_in (M 23) (M 24) ((xa_up X 25 z t) 25) (z + 1).toNat ∧ F (fs_rk (M 23) (M 24) ((xa_up X 25 z t) 25) (z + 1).toNat) ∧ fs_c F (fs_rk (M 23) (M 24) ((xa_up X 25 z t) 25) (z + 1).toNat).toNat = n ∧ fa_S (M 23) (M 24) (M 22) (M 15 12) (M 15 11) F (xa_up X 25 z t) z (n + 1) := by
  have v25 : (xa_up X 25 z t) 25 z = t := xa_up_eq
  have vlo : ∀ j : Int, 0 ≤ j → j < z.toNat → (xa_up X 25 z t) 25 j = X 25 j := fun j j0 j1 => xa_up_ne (by omega)
  have rkl := fs_rk_e (L := M 23) (H := M 24) _ vlo
  have eu := fs_u_e (R := M 22) _ vlo
  have ed := fs_d_e (R := M 22) _ vlo
  have q0 := (fs_rk_b _ inX).1
  have q2 : 0 ≤ fs_rk (M 23) (M 24) (X 25) z.toNat * (M 24 z - M 23 z + 1) := Int.mul_nonneg q0 (by omega)
  have rk1 : fs_rk (M 23) (M 24) ((xa_up X 25 z t) 25) (z + 1).toNat = fs_rk (M 23) (M 24) (X 25) z.toNat * (M 24 z - M 23 z + 1) + (t - M 23 z) := by rw [fa_rk hz, rkl, v25]
  have ft : F (fs_rk (M 23) (M 24) (X 25) z.toNat * (M 24 z - M 23 z + 1) + (t - M 23 z)) := by
    rw [hF]
    exact (fa_bl hz inX ht).mpr hT
  have c1 : fs_c F (fs_rk (M 23) (M 24) (X 25) z.toNat * (M 24 z - M 23 z + 1) + (t - M 23 z) + 1).toNat = n + 1 := (fa_c1 (by omega) ft).trans (by rw [cn])
  have in1 : fs_in (M 23) (M 24) ((xa_up X 25 z t) 25) z.toNat := fun j j0 j1 => by
    rw [vlo j j0 j1]
    exact inX j j0 j1
  refine ⟨fun j j0 j1 => ?_, by rw [rk1]; exact ft, by rw [rk1]; exact cn, Or.inr ⟨(xa_up_ne (by omega)).trans h13, in1, fb_Pz (fun q j h => xa_up_ne h) pX, ?_⟩⟩
  · by_cases e : j = z
    · rw [e, v25]
      exact ht
    · rw [vlo j j0 (by omega)]
      exact inX j j0 (by omega)
  · by_cases c : M 22 z = 0 ∧ t < M 24 z
    · refine Or.inl ⟨c.1, by rw [v25]; exact c.2, by rw [v25]; exact ht.1, ?_, by rw [rkl, v25]; exact c1⟩
      rw [eu, ed]
      exact (fb_T0 c.1).mpr ((fb_T0 c.1).mp hT)
    · refine Or.inr ⟨by rw [v25]; exact c, ?_⟩
      rw [rkl]
      exact fa_rest q2 ht c1 (hrest c)
def fa_K (M M1 : xa_M) : Prop := ∀ q j, ¬ q = 25 → ¬ q = 26 → ¬ q = 27 → ¬ (q = 15 ∧ j = 13) → M1 q j = M q j
theorem cx_91f {b : Bool} {A : Nat → Nat} {h0 : g_H} {d : Nat} {M : xa_M} {post : Option xa_V → xa_M → Prop} {z n : Int} {F : Int → Prop} (hz : 0 ≤ z ∧ z ≤ 13) (hs : M 15 10 = z + 1) (hF : F = fs_F (M 23) (M 24) (M 22) (z + 1).toNat (M 15 12) (M 15 11)) (hB : fb_B (M 22) (z + 1)) (hL : ∀ i : Int, 0 ≤ i → i < z + 1 → 1 ≤ M 23 i ∧ M 23 i ≤ M 24 i ∧ M 24 i ≤ 400) (hup : 1 ≤ M 15 11 ∧ M 15 11 ≤ 2000) (hdn : 1 ≤ M 15 12 ∧ M 15 12 ≤ 2000) (hg : Int.gcd (M 15 12) (M 15 11) = 1) (hPr : fs_pr (M 23) (M 24) (z + 1).toNat ≤ 200000) (hS : fa_S (M 23) (M 24) (M 22) (M 15 12) (M 15 11) F M z n) (k1 : ∀ M1 : xa_M, fa_K M M1 → fs_in (M 23) (M 24) (M1 25) (z + 1).toNat → F (fs_rk (M 23) (M 24) (M1 25) (z + 1).toNat) → fs_c F (fs_rk (M 23) (M 24) (M1 25) (z + 1).toNat).toNat = n → fa_S (M 23) (M 24) (M 22) (M 15 12) (M 15 11) F M1 z (n + 1) → post (some (0, 0, 0, 1, 1)) M1) (k0 : ∀ M1 : xa_M, fa_K M M1 → fs_c F (fs_pr (M 23) (M 24) (z + 1).toNat).toNat = n → post (some (0, 0, 0, 1, 0)) M1) : xa_C (xl_I b) A h0 (d + 5) 91 [(2, 15, 0, 0, 0)] M post := by
  refine xa_C_wk ?_
  refine xa_meth (Q0 := (3, 2, false, 0, 0, 3)) (by decide +kernel) ⟨rfl, rfl⟩ (full := s_c_91) rfl rfl ?_
  intro hM hv Q hgo
  have e9 : xa_w32 ((M 15 10) - 1) = z := by
    rw [hs, xa_w32_id (by omega) (by omega)]
    omega
  have hPl : fs_pr (M 23) (M 24) z.toNat ≤ 200000 := by
    have b1 := fs_pr_b (L := M 23) (H := M 24) z.toNat (fun i i0 i1 => by have := hL i i0 (by omega); omega)
    have b2 := hL z hz.1 (by omega)
    have m := Int.mul_le_mul_of_nonneg_left (show (1 : Int) ≤ M 24 z - M 23 z + 1 by omega) (show 0 ≤ fs_pr (M 23) (M 24) z.toNat by omega)
    rw [fa_pr hz.1] at hPr
    rw [Int.mul_one] at m
    omega
  have loop : ∀ (f : Nat) (x : Int) (M1 : xa_M), 0 ≤ x → fa_K M M1 → fa_U (M 23) (M 24) F M1 z n x → 200001 - x < (f : Int) → Q 66 [(2, (0, 0, 0, 200001, x)), (1, (0, 0, 0, 13, z)), (0, (2, 15, 0, 0, 0))] [] M1 := by
    intro f
    induction f with
    | zero =>
      intro x M1 x0 hk hU hms
      exfalso
      rcases hU with ⟨-, -, a⟩ | ⟨-, a, -, c, -⟩
      · omega
      · have := (fs_rk_b _ a).2
        omega
    | succ f ih =>
      intro x M1 x0 hk hU hms
      have hLz := hL z hz.1 (by omega)
      have hx9 : x ≤ 200000 := by
        rcases hU with ⟨-, -, a⟩ | ⟨-, a, -, c, -⟩
        · omega
        · have := (fs_rk_b _ a).2
          omega
      have r22 : M1 22 = M 22 := funext (fun j => hk 22 j (by decide) (by decide) (by decide) (fun e => absurd e.1 (by decide)))
      have r23 : M1 23 = M 23 := funext (fun j => hk 23 j (by decide) (by decide) (by decide) (fun e => absurd e.1 (by decide)))
      have r24 : M1 24 = M 24 := funext (fun j => hk 24 j (by decide) (by decide) (by decide) (fun e => absurd e.1 (by decide)))
      refine hgo.1 18 [66] 66 _ _ _ ?_
      refine And.intro ?_ ?_
      · intro (c1 : 200000 < x)
        show xa_wk post (some (0, 0, 0, 0, 0)) M1
        exfalso
        omega
      · intro (c1 : x ≤ 200000)
        have hB2 : fb_B (M1 22) z := by rw [r22]; exact fb_Bm hB (by omega)
        have hL2 : ∀ i : Int, 0 ≤ i → i < z → 0 ≤ M1 23 i ∧ M1 23 i ≤ M1 24 i ∧ M1 24 i ≤ 400 := by
          rw [r23, r24]
          intro i i0 i1
          have := hL i i0 (by omega)
          omega
        have h01 : M1 15 13 = 0 ∨ M1 15 13 = 1 := by
          rcases hU with ⟨a, -⟩ | ⟨a, -⟩
          · exact Or.inl a
          · exact Or.inr a
        have hW2 : M1 15 13 = 1 → fs_in (M 23) (M 24) (M1 25) z.toNat ∧ fb_P M1 z ∧ x ≤ fs_rk (M 23) (M 24) (M1 25) z.toNat + 1 ∧ fs_c F ((fs_rk (M 23) (M 24) (M1 25) z.toNat + 1) * (M 24 z - M 23 z + 1)).toNat = n := fun h => by
          rcases hU with ⟨a, -⟩ | ⟨-, a⟩
          · omega
          · exact a
        have hV2 : M1 15 13 = 1 → ∀ i : Int, 0 ≤ i → i < z → M1 23 i ≤ M1 25 i ∧ M1 25 i ≤ M1 24 i := fun h i i0 i1 => by
          rw [r23, r24]
          exact (hW2 h).1 i i0 (by omega)
        have hP2 : M1 15 13 = 1 → fb_P M1 z := fun h => (hW2 h).2.1
        show xa_C (xl_I b) A h0 _ 92 [(2, 15, 0, 0, 0), (0, 0, 0, 13, z)] M1 _
        refine cx_92f (by omega) hB2 hL2 h01 hV2 hP2 ?_ ?_ ?_
        · intro M106 (i2 : M1 15 13 = 0) (i3 : ∀ q j, ¬ q = 25 → ¬ q = 26 → ¬ q = 27 → ¬ (q = 15 ∧ j = 13) → M106 q j = M1 q j) (i4 : M106 15 13 = 1) (i5 : ∀ j : Int, 0 ≤ j → j < z → M106 25 j = M1 23 j) (i6 : ∀ j : Int, z ≤ j → M106 25 j = M1 25 j) (i7 : fb_P M106 z)
          have kX : fa_K M M106 := fun q j h1 h2 h3 h4 => (i3 q j h1 h2 h3 h4).trans (hk q j h1 h2 h3 h4)
          have vX : ∀ j : Int, 0 ≤ j → j < z.toNat → M106 25 j = M 23 j := fun j j0 j1 => (i5 j j0 (by omega)).trans (by rw [r23])
          have inX : fs_in (M 23) (M 24) (M106 25) z.toNat := fun j j0 j1 => by
            rw [vX j j0 j1]
            have := hL j j0 (by omega)
            omega
          have qX : fs_rk (M 23) (M 24) (M106 25) z.toNat = 0 := fs_first _ vX
          have xX : x ≤ fs_rk (M 23) (M 24) (M106 25) z.toNat ∧ fs_c F (fs_rk (M 23) (M 24) (M106 25) z.toNat * (M 24 z - M 23 z + 1)).toNat = n := by
            rcases hU with ⟨-, a1, a2⟩ | ⟨a, -⟩
            · rw [qX, Int.zero_mul, a1]
              exact ⟨by omega, rfl⟩
            · omega
          have q0 := (fs_rk_b _ inX).1
          have q2 : 0 ≤ fs_rk (M 23) (M 24) (M106 25) z.toNat * (M 24 z - M 23 z + 1) := Int.mul_nonneg q0 (by omega)
          have s22 : M106 22 = M 22 := funext (fun j => kX 22 j (by decide) (by decide) (by decide) (fun e => absurd e.1 (by decide)))
          have s23 : M106 23 = M 23 := funext (fun j => kX 23 j (by decide) (by decide) (by decide) (fun e => absurd e.1 (by decide)))
          have s24 : M106 24 = M 24 := funext (fun j => kX 24 j (by decide) (by decide) (by decide) (fun e => absurd e.1 (by decide)))
          have s11 : M106 15 11 = M 15 11 := kX 15 11 (by decide) (by decide) (by decide) (by decide)
          have s12 : M106 15 12 = M 15 12 := kX 15 12 (by decide) (by decide) (by decide) (by decide)
          have pz := i7 z hz.1 (Int.le_refl _)
          rw [s22] at pz
          have bV : ∀ i : Int, 0 ≤ i → i < z.toNat → 1 ≤ M106 25 i ∧ M106 25 i ≤ 400 := fun i i0 i1 => by
            have g := inX i i0 i1
            have g2 := hL i i0 (by omega)
            omega
          have bU := fb_pos (R := M 22) _ bV
          have bb := hB (M106 25) z.toNat (by omega) (fun i i0 i1 => by have := bV i i0 i1; omega)
          have hU3 : 1 ≤ M106 26 z ∧ M106 26 z ≤ 1638400000000000000 := by rw [pz.1]; exact ⟨bU.1, bb.1.2⟩
          have hD3 : 1 ≤ M106 27 z ∧ M106 27 z ≤ 1638400000000000000 := by rw [pz.2]; exact ⟨bU.2, bb.2.2⟩
          have hup3 : 1 ≤ M106 15 11 ∧ M106 15 11 ≤ 2000 := by rw [s11]; exact hup
          have hdn3 : 1 ≤ M106 15 12 ∧ M106 15 12 ≤ 2000 := by rw [s12]; exact hdn
          have hg3 : Int.gcd (M106 15 12) (M106 15 11) = 1 := by rw [s11, s12]; exact hg
          have hL3 : 1 ≤ M106 23 z ∧ M106 23 z ≤ M106 24 z ∧ M106 24 z ≤ 400 := by rw [s23, s24]; exact hL z hz.1 (by omega)
          have hUt3 : 0 < M106 22 z → ∀ t : Int, 0 ≤ t → t ≤ 400 → M106 26 z * t ≤ 1638400000000000000 := fun c t t0 t1 => by
            rw [pz.1]
            rw [s22] at c
            exact (fb_last hz.1 hB bV t0 t1).1 c
          have hDt3 : M106 22 z < 0 → ∀ t : Int, 0 ≤ t → t ≤ 400 → M106 27 z * t ≤ 1638400000000000000 := fun c t t0 t1 => by
            rw [pz.2]
            rw [s22] at c
            exact (fb_last hz.1 hB bV t0 t1).2 c
          have hFT : ∀ t : Int, M 23 z ≤ t ∧ t ≤ M 24 z → (F (fs_rk (M 23) (M 24) (M106 25) z.toNat * (M 24 z - M 23 z + 1) + (t - M 23 z)) ↔ fb_T (M106 26 z) (M106 27 z) (M106 22 z) (M106 15 12) (M106 15 11) t) := fun t ht => by
            rw [hF, pz.1, pz.2, s22, s11, s12]
            exact fa_bl hz.1 inX ht
          have hLz := hL z hz.1 (by omega)
          clear bb
          refine And.intro ?_ ?_
          · intro (c8 : ¬ 1 = 0)
            show xa_C (xl_I b) A h0 _ 95 [(2, 15, 0, 0, 0), (0, 0, 0, 13, z)] M106 _
            refine cx_95f (by omega) hU3 hD3 hup3 hdn3 hg3 hL3 hUt3 hDt3 ?_ ?_
            · intro t109 (i9 : (M106 23 z ≤ t109 ∧ t109 ≤ M106 24 z)) (i10 : fb_T (M106 26 z) (M106 27 z) (M106 22 z) (M106 15 12) (M106 15 11) t109) (i11 : M106 22 z = 0 → t109 = M106 23 z) (i12 : ¬ M106 22 z = 0 → ∀ t' : Int, (M106 23 z ≤ t' ∧ t' ≤ M106 24 z) → fb_T (M106 26 z) (M106 27 z) (M106 22 z) (M106 15 12) (M106 15 11) t' → t' = t109)
              show xa_wk post (some (0, 0, 1, 1, 1)) (xa_up M106 25 z t109)
              rw [s23, s24] at i9
              rw [s22] at i11 i12
              have cn : fs_c F (fs_rk (M 23) (M 24) (M106 25) z.toNat * (M 24 z - M 23 z + 1) + (t109 - M 23 z)).toNat = n := fa_some q2 i9 xX.2 (fun t' ht' h9 => by
                by_cases c : M 22 z = 0
                · have := i11 c
                  rw [s23] at this
                  omega
                · have := i12 c t' (by rw [s23, s24]; omega) (by have g := (hFT t' (by omega)).mp h9; rw [s22] at g; exact g)
                  omega)
              have hT9 := i10
              rw [pz.1, pz.2, s22, s11, s12] at hT9
              obtain ⟨f1, f2, f3, f4⟩ := fa_fnd hz.1 hF i4 inX i7 i9 hT9 cn (fun hc t' ht' h9 => by
                by_cases c : M 22 z = 0
                · omega
                · have := i12 c t' (by rw [s23, s24]; omega) (by have g := (hFT t' (by omega)).mp h9; rw [s22] at g; exact g)
                  omega)
              exact xa_wkI 1 rfl (fun _ _ => by omega) (k1 _ (fun q j h1 h2 h3 h4 => (xa_up_ne (by omega)).trans (kX q j h1 h2 h3 h4)) f1 f2 f3 f4)
            · intro M108 (i13 : ∀ q j, ¬ (q = 25 ∧ j = z) → M108 q j = M106 q j) (i14 : ∀ t : Int, (M106 23 z ≤ t ∧ t ≤ M106 24 z) → ¬ fb_T (M106 26 z) (M106 27 z) (M106 22 z) (M106 15 12) (M106 15 11) t)
              show Q 66 [(2, (0, 0, 1, 200002, x + 1)), (1, (0, 0, 0, 13, z)), (0, (2, 15, 0, 0, 0))] [] M108
              have vlo : ∀ j : Int, 0 ≤ j → j < z.toNat → M108 25 j = M106 25 j := fun j j0 j1 => i13 25 j (by omega)
              have rkl := fs_rk_e (L := M 23) (H := M 24) _ vlo
              have q1 := (fs_rk_b _ inX).2
              have cn : fs_c F ((fs_rk (M 23) (M 24) (M108 25) z.toNat + 1) * (M 24 z - M 23 z + 1)).toNat = n := by
                rw [rkl]
                exact fa_none q2 (by omega) xX.2 (fun t ht h9 => i14 t (by rw [s23, s24]; exact ht) ((hFT t ht).mp h9))
              refine hgo.2.1 66 _ [(2, (0, 0, 0, 200001, x + 1)), (1, (0, 0, 0, 13, z)), (0, (2, 15, 0, 0, 0))] _ _ (xa_subI rfl rfl (fun _ _ _ _ => by omega) (xa_subI rfl rfl (fun _ _ _ _ => by omega) (xa_subR rfl (xa_sub0)))) ?_
              exact ih (x + 1) M108 (by omega) (fun q j h1 h2 h3 h4 => (i13 q j (fun e => h1 e.1)).trans (kX q j h1 h2 h3 h4)) (Or.inr ⟨(i13 15 13 (fun e => absurd e.1 (by decide))).trans i4, fun j j0 j1 => by rw [vlo j j0 j1]; exact inX j j0 j1, fb_Pz i13 i7, by rw [rkl]; omega, cn⟩) (by omega)
          · intro (c8 : 1 = 0)
            exfalso
            omega
        · intro M107 (i15 : M1 15 13 = 1) (i16 : ∀ q j, ¬ q = 25 → ¬ q = 26 → ¬ q = 27 → ¬ (q = 15 ∧ j = 13) → M107 q j = M1 q j) (i17 : M107 15 13 = 1) (i18 : ∃ x : Int, 0 ≤ x ∧ x < z ∧ (∀ j : Int, 0 ≤ j → j < x → M107 25 j = M1 25 j) ∧ M1 25 x < M1 24 x ∧ M107 25 x = M1 25 x + 1 ∧ ∀ j : Int, x < j → j < z → M1 25 j = M1 24 j ∧ M107 25 j = M1 23 j) (i19 : ∀ j : Int, z ≤ j → M107 25 j = M1 25 j) (i20 : fb_P M107 z)
          have kX : fa_K M M107 := fun q j h1 h2 h3 h4 => (i16 q j h1 h2 h3 h4).trans (hk q j h1 h2 h3 h4)
          obtain ⟨w1, w2, w3, w4⟩ := hW2 i15
          obtain ⟨y, y0, y1, y2, y5, y3, y4⟩ := i18
          rw [r23, r24] at y4
          rw [r24] at y5
          have ey : ((y.toNat : Nat) : Int) = y := Int.toNat_of_nonneg y0
          have inX : fs_in (M 23) (M 24) (M107 25) z.toNat := fun j j0 j1 => by
            have g := w1 j j0 j1
            have g2 := hL j j0 (by omega)
            rcases Int.lt_or_le j y with c | c
            · rw [y2 j j0 c]
              exact g
            · by_cases e : j = y
              · rw [e, y3]
                rw [e] at g g2
                omega
              · rw [(y4 j (by omega) (by omega)).2]
                omega
          have qX : fs_rk (M 23) (M 24) (M107 25) z.toNat = fs_rk (M 23) (M 24) (M1 25) z.toNat + 1 := fs_succ (x := y.toNat) (fun j j0 j1 => y2 j j0 (by omega)) (by rw [ey]; exact y3) z.toNat (by omega) (fun j j0 j1 => y4 j (by omega) (by omega))
          have xX : x ≤ fs_rk (M 23) (M 24) (M107 25) z.toNat ∧ fs_c F (fs_rk (M 23) (M 24) (M107 25) z.toNat * (M 24 z - M 23 z + 1)).toNat = n := by
            rw [qX]
            exact ⟨w3, w4⟩
          have q0 := (fs_rk_b _ inX).1
          have q2 : 0 ≤ fs_rk (M 23) (M 24) (M107 25) z.toNat * (M 24 z - M 23 z + 1) := Int.mul_nonneg q0 (by omega)
          have s22 : M107 22 = M 22 := funext (fun j => kX 22 j (by decide) (by decide) (by decide) (fun e => absurd e.1 (by decide)))
          have s23 : M107 23 = M 23 := funext (fun j => kX 23 j (by decide) (by decide) (by decide) (fun e => absurd e.1 (by decide)))
          have s24 : M107 24 = M 24 := funext (fun j => kX 24 j (by decide) (by decide) (by decide) (fun e => absurd e.1 (by decide)))
          have s11 : M107 15 11 = M 15 11 := kX 15 11 (by decide) (by decide) (by decide) (by decide)
          have s12 : M107 15 12 = M 15 12 := kX 15 12 (by decide) (by decide) (by decide) (by decide)
          have pz := i20 z hz.1 (Int.le_refl _)
          rw [s22] at pz
          have bV : ∀ i : Int, 0 ≤ i → i < z.toNat → 1 ≤ M107 25 i ∧ M107 25 i ≤ 400 := fun i i0 i1 => by
            have g := inX i i0 i1
            have g2 := hL i i0 (by omega)
            omega
          have bU := fb_pos (R := M 22) _ bV
          have bb := hB (M107 25) z.toNat (by omega) (fun i i0 i1 => by have := bV i i0 i1; omega)
          have hU3 : 1 ≤ M107 26 z ∧ M107 26 z ≤ 1638400000000000000 := by rw [pz.1]; exact ⟨bU.1, bb.1.2⟩
          have hD3 : 1 ≤ M107 27 z ∧ M107 27 z ≤ 1638400000000000000 := by rw [pz.2]; exact ⟨bU.2, bb.2.2⟩
          have hup3 : 1 ≤ M107 15 11 ∧ M107 15 11 ≤ 2000 := by rw [s11]; exact hup
          have hdn3 : 1 ≤ M107 15 12 ∧ M107 15 12 ≤ 2000 := by rw [s12]; exact hdn
          have hg3 : Int.gcd (M107 15 12) (M107 15 11) = 1 := by rw [s11, s12]; exact hg
          have hL3 : 1 ≤ M107 23 z ∧ M107 23 z ≤ M107 24 z ∧ M107 24 z ≤ 400 := by rw [s23, s24]; exact hL z hz.1 (by omega)
          have hUt3 : 0 < M107 22 z → ∀ t : Int, 0 ≤ t → t ≤ 400 → M107 26 z * t ≤ 1638400000000000000 := fun c t t0 t1 => by
            rw [pz.1]
            rw [s22] at c
            exact (fb_last hz.1 hB bV t0 t1).1 c
          have hDt3 : M107 22 z < 0 → ∀ t : Int, 0 ≤ t → t ≤ 400 → M107 27 z * t ≤ 1638400000000000000 := fun c t t0 t1 => by
            rw [pz.2]
            rw [s22] at c
            exact (fb_last hz.1 hB bV t0 t1).2 c
          have hFT : ∀ t : Int, M 23 z ≤ t ∧ t ≤ M 24 z → (F (fs_rk (M 23) (M 24) (M107 25) z.toNat * (M 24 z - M 23 z + 1) + (t - M 23 z)) ↔ fb_T (M107 26 z) (M107 27 z) (M107 22 z) (M107 15 12) (M107 15 11) t) := fun t ht => by
            rw [hF, pz.1, pz.2, s22, s11, s12]
            exact fa_bl hz.1 inX ht
          have hLz := hL z hz.1 (by omega)
          clear bb
          refine And.intro ?_ ?_
          · intro (c21 : ¬ 1 = 0)
            show xa_C (xl_I b) A h0 _ 95 [(2, 15, 0, 0, 0), (0, 0, 0, 13, z)] M107 _
            refine cx_95f (by omega) hU3 hD3 hup3 hdn3 hg3 hL3 hUt3 hDt3 ?_ ?_
            · intro t111 (i22 : (M107 23 z ≤ t111 ∧ t111 ≤ M107 24 z)) (i23 : fb_T (M107 26 z) (M107 27 z) (M107 22 z) (M107 15 12) (M107 15 11) t111) (i24 : M107 22 z = 0 → t111 = M107 23 z) (i25 : ¬ M107 22 z = 0 → ∀ t' : Int, (M107 23 z ≤ t' ∧ t' ≤ M107 24 z) → fb_T (M107 26 z) (M107 27 z) (M107 22 z) (M107 15 12) (M107 15 11) t' → t' = t111)
              show xa_wk post (some (0, 0, 1, 1, 1)) (xa_up M107 25 z t111)
              rw [s23, s24] at i22
              rw [s22] at i24 i25
              have cn : fs_c F (fs_rk (M 23) (M 24) (M107 25) z.toNat * (M 24 z - M 23 z + 1) + (t111 - M 23 z)).toNat = n := fa_some q2 i22 xX.2 (fun t' ht' h9 => by
                by_cases c : M 22 z = 0
                · have := i24 c
                  rw [s23] at this
                  omega
                · have := i25 c t' (by rw [s23, s24]; omega) (by have g := (hFT t' (by omega)).mp h9; rw [s22] at g; exact g)
                  omega)
              have hT9 := i23
              rw [pz.1, pz.2, s22, s11, s12] at hT9
              obtain ⟨f1, f2, f3, f4⟩ := fa_fnd hz.1 hF i17 inX i20 i22 hT9 cn (fun hc t' ht' h9 => by
                by_cases c : M 22 z = 0
                · omega
                · have := i25 c t' (by rw [s23, s24]; omega) (by have g := (hFT t' (by omega)).mp h9; rw [s22] at g; exact g)
                  omega)
              exact xa_wkI 1 rfl (fun _ _ => by omega) (k1 _ (fun q j h1 h2 h3 h4 => (xa_up_ne (by omega)).trans (kX q j h1 h2 h3 h4)) f1 f2 f3 f4)
            · intro M110 (i26 : ∀ q j, ¬ (q = 25 ∧ j = z) → M110 q j = M107 q j) (i27 : ∀ t : Int, (M107 23 z ≤ t ∧ t ≤ M107 24 z) → ¬ fb_T (M107 26 z) (M107 27 z) (M107 22 z) (M107 15 12) (M107 15 11) t)
              show Q 66 [(2, (0, 0, 1, 200002, x + 1)), (1, (0, 0, 0, 13, z)), (0, (2, 15, 0, 0, 0))] [] M110
              have vlo : ∀ j : Int, 0 ≤ j → j < z.toNat → M110 25 j = M107 25 j := fun j j0 j1 => i26 25 j (by omega)
              have rkl := fs_rk_e (L := M 23) (H := M 24) _ vlo
              have q1 := (fs_rk_b _ inX).2
              have cn : fs_c F ((fs_rk (M 23) (M 24) (M110 25) z.toNat + 1) * (M 24 z - M 23 z + 1)).toNat = n := by
                rw [rkl]
                exact fa_none q2 (by omega) xX.2 (fun t ht h9 => i27 t (by rw [s23, s24]; exact ht) ((hFT t ht).mp h9))
              refine hgo.2.1 66 _ [(2, (0, 0, 0, 200001, x + 1)), (1, (0, 0, 0, 13, z)), (0, (2, 15, 0, 0, 0))] _ _ (xa_subI rfl rfl (fun _ _ _ _ => by omega) (xa_subI rfl rfl (fun _ _ _ _ => by omega) (xa_subR rfl (xa_sub0)))) ?_
              exact ih (x + 1) M110 (by omega) (fun q j h1 h2 h3 h4 => (i26 q j (fun e => h1 e.1)).trans (kX q j h1 h2 h3 h4)) (Or.inr ⟨(i26 15 13 (fun e => absurd e.1 (by decide))).trans i17, fun j j0 j1 => by rw [vlo j j0 j1]; exact inX j j0 j1, fb_Pz i26 i20, by rw [rkl]; omega, cn⟩) (by omega)
          · intro (c21 : 1 = 0)
            exfalso
            omega
        · intro (i28 : M1 15 13 = 1) (i29 : ∀ j : Int, 0 ≤ j → j < z → M1 25 j = M1 24 j)
          refine And.intro ?_ ?_
          · intro (c30 : ¬ 0 = 0)
            exfalso
            omega
          · intro (c30 : 0 = 0)
            show xa_wk post (some (0, 0, 0, 0, 0)) M1
            have e9 := fs_last (L := M 23) (H := M 24) (V := M1 25) z.toNat (fun j j0 j1 => (i29 j j0 (by omega)).trans (by rw [r24]))
            exact xa_wkI 0 rfl (fun _ _ => by omega) (k0 M1 hk (by rw [fa_pr hz.1, ← e9]; exact (hW2 i28).2.2.2))
  refine hgo.1 38 [66] 0 _ _ _ ?_
  refine And.intro ?_ ?_
  · intro (c1 : (M 15 13) = 0)
    show Q 66 [(2, (0, 0, 0, 0, 0)), (1, (0, 0, (-2147483648), 2147483647, xa_w32 ((M 15 10) - 1))), (0, (2, 15, 0, 0, 0))] [] M
    rw [e9]
    have hU : fa_U (M 23) (M 24) F M z n 0 := by
      rcases hS with ⟨a, b⟩ | ⟨a0, a1, a2, a3⟩
      · exact Or.inl ⟨a, b, rfl⟩
      · rcases a3 with ⟨b1, b2, -, -, -⟩ | ⟨b1, b2⟩
        · exfalso
          omega
        · have q0 := (fs_rk_b _ a1).1
          exact Or.inr ⟨a0, a1, a2, by omega, b2⟩
    refine hgo.2.1 66 _ [(2, (0, 0, 0, 200001, 0)), (1, (0, 0, 0, 13, z)), (0, (2, 15, 0, 0, 0))] _ _ (xa_subI rfl rfl (fun _ _ _ _ => by omega) (xa_subI rfl rfl (fun _ _ _ _ => by omega) (xa_subR rfl (xa_sub0)))) ?_
    exact loop 200002 0 M (by omega) (fun _ _ _ _ _ _ => rfl) hU (by omega)
  · intro (c1 : ¬ (M 15 13) = 0)
    show xa_C (xl_I b) A h0 _ 23 [(2, 22, 0, 0, 0), (0, 0, (-2147483648), 2147483647, xa_w32 ((M 15 10) - 1))] M _
    refine cx_23_22 (show 0 ≤ (xa_w32 ((M 15 10) - 1)) ∧ (xa_w32 ((M 15 10) - 1)) < 14 by omega) ?_
    refine And.intro ?_ ?_
    · intro (c2 : ¬ (M 22 (xa_w32 ((M 15 10) - 1))) = 0)
      show Q 66 [(2, (0, 0, 0, 0, 0)), (1, (0, 0, (-2147483648), 2147483647, xa_w32 ((M 15 10) - 1))), (0, (2, 15, 0, 0, 0))] [] M
      rw [e9]
      have hU : fa_U (M 23) (M 24) F M z n 0 := by
        rcases hS with ⟨a, b⟩ | ⟨a0, a1, a2, a3⟩
        · exact Or.inl ⟨a, b, rfl⟩
        · rcases a3 with ⟨b1, b2, -, -, -⟩ | ⟨b1, b2⟩
          · exfalso
            rw [e9] at c2
            omega
          · have q0 := (fs_rk_b _ a1).1
            exact Or.inr ⟨a0, a1, a2, by omega, b2⟩
      refine hgo.2.1 66 _ [(2, (0, 0, 0, 200001, 0)), (1, (0, 0, 0, 13, z)), (0, (2, 15, 0, 0, 0))] _ _ (xa_subI rfl rfl (fun _ _ _ _ => by omega) (xa_subI rfl rfl (fun _ _ _ _ => by omega) (xa_subR rfl (xa_sub0)))) ?_
      exact loop 200002 0 M (by omega) (fun _ _ _ _ _ _ => rfl) hU (by omega)
    · intro (c2 : (M 22 (xa_w32 ((M 15 10) - 1))) = 0)
      show xa_C (xl_I b) A h0 _ 23 [(2, 25, 0, 0, 0), (0, 0, (-2147483648), 2147483647, xa_w32 ((M 15 10) - 1))] M _
      refine cx_23_25 (show 0 ≤ (xa_w32 ((M 15 10) - 1)) ∧ (xa_w32 ((M 15 10) - 1)) < 14 by omega) ?_
      show xa_C (xl_I b) A h0 _ 23 [(2, 24, 0, 0, 0), (0, 0, (-2147483648), 2147483647, xa_w32 ((M 15 10) - 1))] M _
      refine cx_23_24 (show 0 ≤ (xa_w32 ((M 15 10) - 1)) ∧ (xa_w32 ((M 15 10) - 1)) < 14 by omega) ?_
      refine And.intro ?_ ?_
      · intro (c3 : (M 24 (xa_w32 ((M 15 10) - 1))) ≤ (M 25 (xa_w32 ((M 15 10) - 1))))
        show Q 66 [(2, (0, 0, 0, 0, 0)), (1, (0, 0, (-2147483648), 2147483647, xa_w32 ((M 15 10) - 1))), (0, (2, 15, 0, 0, 0))] [] M
        rw [e9]
        have hU : fa_U (M 23) (M 24) F M z n 0 := by
          rcases hS with ⟨a, b⟩ | ⟨a0, a1, a2, a3⟩
          · exact Or.inl ⟨a, b, rfl⟩
          · rcases a3 with ⟨b1, b2, -, -, -⟩ | ⟨b1, b2⟩
            · exfalso
              rw [e9] at c2 c3
              omega
            · have q0 := (fs_rk_b _ a1).1
              exact Or.inr ⟨a0, a1, a2, by omega, b2⟩
        refine hgo.2.1 66 _ [(2, (0, 0, 0, 200001, 0)), (1, (0, 0, 0, 13, z)), (0, (2, 15, 0, 0, 0))] _ _ (xa_subI rfl rfl (fun _ _ _ _ => by omega) (xa_subI rfl rfl (fun _ _ _ _ => by omega) (xa_subR rfl (xa_sub0)))) ?_
        exact loop 200002 0 M (by omega) (fun _ _ _ _ _ _ => rfl) hU (by omega)
      · intro (c3 : (M 25 (xa_w32 ((M 15 10) - 1))) < (M 24 (xa_w32 ((M 15 10) - 1))))
        show xa_C (xl_I b) A h0 _ 23 [(2, 25, 0, 0, 0), (0, 0, (-2147483648), 2147483647, xa_w32 ((M 15 10) - 1))] M _
        refine cx_23_25 (show 0 ≤ (xa_w32 ((M 15 10) - 1)) ∧ (xa_w32 ((M 15 10) - 1)) < 14 by omega) ?_
        show xa_C (xl_I b) A h0 _ 18 [(2, 25, 0, 0, 0), (0, 0, (-2147483648), 2147483647, xa_w32 ((M 15 10) - 1)), (0, 0, (-2147483648), 2147483647, xa_w32 ((M 25 (xa_w32 ((M 15 10) - 1))) + 1))] M _
        refine cx_18_25 (show 0 ≤ (xa_w32 ((M 15 10) - 1)) ∧ (xa_w32 ((M 15 10) - 1)) < 14 by omega) ?_
        show xa_wk post (some (0, 0, 1, 1, 1)) (xa_up M 25 (xa_w32 ((M 15 10) - 1)) (xa_w32 ((M 25 (xa_w32 ((M 15 10) - 1))) + 1)))
        rw [e9] at c2 c3
        rcases hS with ⟨a, -⟩ | ⟨a0, a1, a2, a3⟩
        · omega
        rcases a3 with ⟨b1, b2, b3, b4, b5⟩ | ⟨b1, -⟩
        · have hLz := hL z hz.1 (by omega)
          have w9 : xa_w32 ((M 25 z) + 1) = M 25 z + 1 := xa_w32_id (by omega) (by omega)
          rw [e9, w9]
          have hT9 : fb_T (fs_u (M 22) (M 25) z.toNat) (fs_d (M 22) (M 25) z.toNat) (M 22 z) (M 15 12) (M 15 11) (M 25 z + 1) := (fb_T0 b1).mpr ((fb_T0 b1).mp b4)
          have cn : fs_c F (fs_rk (M 23) (M 24) (M 25) z.toNat * (M 24 z - M 23 z + 1) + ((M 25 z + 1) - M 23 z)).toNat = n := by
            rw [show (fs_rk (M 23) (M 24) (M 25) z.toNat * (M 24 z - M 23 z + 1) + ((M 25 z + 1) - M 23 z)) = fs_rk (M 23) (M 24) (M 25) z.toNat * (M 24 z - M 23 z + 1) + (M 25 z - M 23 z) + 1 by omega]
            exact b5
          obtain ⟨f1, f2, f3, f4⟩ := fa_fnd (t := M 25 z + 1) hz.1 hF a0 a1 a2 (by omega) hT9 cn (fun hc t' ht' h9 => by omega)
          exact xa_wkI 1 rfl (fun _ _ => by omega) (k1 _ (fun q j h1 h2 h3 h4 => xa_up_ne (by omega)) f1 f2 f3 f4)
        · exact absurd ⟨c2, c3⟩ b1
theorem cx_89f {b : Bool} {A : Nat → Nat} {h0 : g_H} {d : Nat} {M : xa_M} {post : Option xa_V → xa_M → Prop} {l1 u1 i : Int} (hi : 0 ≤ i ∧ i ≤ 13) (hL : 1 ≤ M 23 i ∧ M 23 i ≤ M 24 i ∧ M 24 i ≤ 400) (k : post (some (0, 0, 1, 400, (M 24 i) - (M 23 i) + 1)) M) : xa_C (xl_I b) A h0 (d + 2) 89 [(2, 15, 0, 0, 0), (0, 0, l1, u1, i)] M post := by
  refine xa_C_wk ?_
  refine xa_C_arg [(2, 15, 0, 0, 0), (0, 0, 0, 13, i)] (xa_svR (xa_svI (fun _ _ _ _ => by omega) xa_sv0)) ?_
  refine xa_meth (Q0 := (2, 1, false, 0, 0, 3)) (by decide +kernel) ⟨rfl, rfl⟩ (full := s_c_89) rfl rfl ?_
  intro hM hv Q hgo
  refine hgo.1 16 [] 0 _ _ _ ?_
  show xa_C (xl_I b) A h0 _ 23 [(2, 24, 0, 0, 0), (0, 0, 0, 13, i)] M _
  refine cx_23_24 (show 0 ≤ i ∧ i < 14 by omega) ?_
  show xa_C (xl_I b) A h0 _ 23 [(2, 23, 0, 0, 0), (0, 0, 0, 13, i)] M _
  refine cx_23_23 (show 0 ≤ i ∧ i < 14 by omega) ?_
  show xa_wk post (some (0, 0, (-2147483648), 2147483647, xa_w32 ((xa_w32 ((M 24 i) - (M 23 i))) + 1))) M
  have w1 : xa_w32 ((M 24 i) - (M 23 i)) = M 24 i - M 23 i := xa_w32_id (by omega) (by omega)
  exact xa_wkI ((M 24 i) - (M 23 i) + 1) (by first | omega | (rw [w1]; exact xa_w32_id (by omega) (by omega))) (fun _ _ => by omega) k
theorem fs_prm {L H : Int → Int} {a b : Nat} (hab : a ≤ b) (h : ∀ i : Int, 0 ≤ i → i < b → L i ≤ H i) : fs_pr L H a ≤ fs_pr L H b := by
  obtain ⟨d, rfl⟩ := Nat.exists_eq_add_of_le hab
  induction d with
  | zero => exact Int.le_refl _
  | succ d ih =>
    have g := ih (by omega) (fun i i0 i1 => h i i0 (by omega))
    have p := fs_pr_b (L := L) (H := H) (a + d) (fun i i0 i1 => h i i0 (by omega))
    have q := h ((a + d : Nat) : Int) (by omega) (by omega)
    have m := Int.mul_le_mul_of_nonneg_left (show (1 : Int) ≤ H ((a + d : Nat) : Int) - L ((a + d : Nat) : Int) + 1 by omega) (show 0 ≤ fs_pr L H (a + d) by omega)
    rw [Int.mul_one] at m
    exact Int.le_trans g m
theorem cx_88f {b : Bool} {A : Nat → Nat} {h0 : g_H} {d : Nat} {M : xa_M} {post : Option xa_V → xa_M → Prop} (hs : 0 ≤ M 15 10 ∧ M 15 10 ≤ 14) (hL : ∀ i : Int, 0 ≤ i → i < M 15 10 → 1 ≤ M 23 i ∧ M 23 i ≤ M 24 i ∧ M 24 i ≤ 400) (k : ∀ r : Int, (r = 0 ∨ r = 1) → (r = 1 ↔ fs_pr (M 23) (M 24) (M 15 10).toNat ≤ 200000) → post (some (0, 0, 0, 1, r)) M) : xa_C (xl_I b) A h0 (d + 3) 88 [(2, 15, 0, 0, 0)] M post := by
  refine xa_C_wk ?_
  refine xa_meth (Q0 := (4, 2, false, 0, 0, 3)) (by decide +kernel) ⟨rfl, rfl⟩ (full := s_c_88) rfl rfl ?_
  intro hM hv Q hgo
  have loop : ∀ (f : Nat) (i w : Int), 0 ≤ i ∧ i ≤ M 15 10 → 1 ≤ w ∧ w ≤ 80000000 → w = fs_pr (M 23) (M 24) i.toNat → 14 - i < (f : Int) → Q 4 [(3, (0, 0, 0, 14, i)), (1, (1, 0, 1, 80000000, w)), (0, (2, 15, 0, 0, 0))] [] M := by
    intro f
    induction f with
    | zero => intro i w i1 w1 hw hms; omega
    | succ f ih =>
      intro i w i1 w1 hw hms
      refine hgo.1 21 [4] 4 _ _ _ ?_
      refine And.intro ?_ ?_
      · intro (c1 : (M 15 10) ≤ i)
        refine And.intro ?_ ?_
        · intro (c2 : 200000 < w)
          show xa_wk post (some (0, 0, 0, 0, 0)) M
          have hm := fs_prm (L := M 23) (H := M 24) (a := i.toNat) (b := (M 15 10).toNat) (by omega) (fun j j0 j1 => by have := hL j j0 (by omega); omega)
          exact xa_wkI 0 rfl (fun _ _ => by omega) (k 0 (Or.inl rfl) ⟨fun h => absurd h (by decide), fun h => by omega⟩)
        · intro (c2 : w ≤ 200000)
          show xa_wk post (some (0, 0, 1, 1, 1)) M
          exact xa_wkI 1 rfl (fun _ _ => by omega) (k 1 (Or.inr rfl) ⟨fun _ => by rw [← show i = M 15 10 by omega, ← hw]; omega, fun _ => rfl⟩)
      · intro (c1 : i < (M 15 10))
        refine And.intro ?_ ?_
        · intro (c3 : 200000 < w)
          refine And.intro ?_ ?_
          · intro (c4 : 200000 < w)
            show xa_wk post (some (0, 0, 0, 0, 0)) M
            have hm := fs_prm (L := M 23) (H := M 24) (a := i.toNat) (b := (M 15 10).toNat) (by omega) (fun j j0 j1 => by have := hL j j0 (by omega); omega)
            exact xa_wkI 0 rfl (fun _ _ => by omega) (k 0 (Or.inl rfl) ⟨fun h => absurd h (by decide), fun h => by omega⟩)
          · intro (c4 : w ≤ 200000)
            exfalso
            omega
        · intro (c3 : w ≤ 200000)
          show xa_C (xl_I b) A h0 _ 89 [(2, 15, 0, 0, 0), (0, 0, 0, 14, i)] M _
          refine cx_89f (by omega) (hL _ (by omega) (by omega)) ?_
          show Q 4 [(3, (0, 0, 1, 15, i + 1)), (1, (1, 0, 1, 32000000000, w * ((M 24 i) - (M 23 i) + 1))), (0, (2, 15, 0, 0, 0))] [] M
          have h9 := hL i (by omega) (by omega)
          have m1 := Int.mul_le_mul_of_nonneg_right (show w ≤ 200000 by omega) (show 0 ≤ (M 24 i) - (M 23 i) + 1 by omega)
          have m2 := Int.mul_le_mul (show (1 : Int) ≤ w by omega) (show (1 : Int) ≤ (M 24 i) - (M 23 i) + 1 by omega) (by decide) (by omega)
          refine hgo.2.1 4 _ [(3, (0, 0, 0, 14, i + 1)), (1, (1, 0, 1, 80000000, w * ((M 24 i) - (M 23 i) + 1))), (0, (2, 15, 0, 0, 0))] _ _ (xa_subI rfl rfl (fun _ _ _ _ => by omega) (xa_subL rfl rfl (fun _ _ _ _ => by omega) (xa_subR rfl (xa_sub0)))) ?_
          exact ih (i + 1) _ (by omega) (by omega) (by rw [fa_pr i1.1, ← hw]) (by omega)
  refine hgo.1 9 [4] 0 _ _ _ ?_
  show Q 4 [(3, (0, 0, 0, 0, 0)), (1, (1, 0, 1, 1, 1)), (0, (2, 15, 0, 0, 0))] [] M
  refine hgo.2.1 4 _ [(3, (0, 0, 0, 14, 0)), (1, (1, 0, 1, 80000000, 1)), (0, (2, 15, 0, 0, 0))] _ _ (xa_subI rfl rfl (fun _ _ _ _ => by omega) (xa_subL rfl rfl (fun _ _ _ _ => by omega) (xa_subR rfl (xa_sub0)))) ?_
  exact loop 15 0 1 (by omega) (by omega) rfl (by omega)
theorem cx_56 {b : Bool} {A : Nat → Nat} {h0 : g_H} {d : Nat} {M : xa_M} {post : Option xa_V → xa_M → Prop} {l0 u0 : Int} {x1 : Int} (k1 : (0 ≤ x1) → post (some (1, 0, (-9223372036854775808), 9223372036854775807, x1)) M) (k2 : (x1 < 0) → post (some (1, 0, (-9223372036854775808), 9223372036854775807, xa_w64 (-x1))) M) : xa_C (xl_I b) A h0 (d + 1) 56 [(1, 0, l0, u0, x1)] M post := by
  refine xa_C_arg [(1, 0, (-9223372036854775808), 9223372036854775807, x1)] (xa_svL (fun _ _ _ _ => by omega) (xa_sv0)) ?_
  refine xa_meth (Q0 := (2, 3, false, 0, 0, 14)) (by decide +kernel) ⟨rfl, rfl⟩ (full := s_c_56) rfl rfl ?_
  intro hM hv Q hgo
  refine hgo.1 11 [] 0 _ _ _ ?_
  refine And.intro ?_ ?_
  · intro (c1 : 0 ≤ x1)
    show post (some (1, 0, (-9223372036854775808), 9223372036854775807, x1)) M
    exact k1 c1
  · intro (c1 : x1 < 0)
    show post (some (1, 0, (-9223372036854775808), 9223372036854775807, xa_w64 (-x1))) M
    exact k2 c1
theorem cx_55f {b : Bool} {A : Nat → Nat} {h0 : g_H} {d : Nat} {M : xa_M} {post : Option xa_V → xa_M → Prop} {l1 u1 l2 u2 x y : Int} (hx : 0 ≤ x ∧ x ≤ 4294967296) (hy : 0 ≤ y ∧ y ≤ 4294967296) (k : ∀ g : Int, g = (Int.gcd x y : Int) → 0 ≤ g → post (some (1, 0, 0, 4294967296, g)) M) : xa_C (xl_I b) A h0 (d + 2) 55 [(1, 0, l1, u1, x), (1, 0, l2, u2, y)] M post := by
  refine xa_C_wk ?_
  refine xa_C_arg [(1, 0, 0, 4294967296, x), (1, 0, 0, 4294967296, y)] (xa_svL (fun _ _ _ _ => by omega) (xa_svL (fun _ _ _ _ => by omega) xa_sv0)) ?_
  refine xa_meth (Q0 := (11, 3, false, 0, 0, 11)) (by decide +kernel) ⟨rfl, rfl⟩ (full := s_c_55) rfl rfl ?_
  intro hM hv Q hgo
  have loop : ∀ (f : Nat) (i a b : Int), 0 ≤ i ∧ i ≤ 100 → 0 ≤ a ∧ a ≤ 4294967296 → 0 ≤ b ∧ b ≤ 4294967296 → Int.gcd a b = Int.gcd x y → ((∃ j : Nat, b ≤ a ∧ a * b < 2 ^ j ∧ (j : Int) < 100 - i) ∨ (i = 0 ∧ a ≤ 4294967296)) → 100 - i < (f : Int) → Q 15 [(8, (0, 0, 0, 100, i)), (4, (1, 0, 0, 4294967296, a)), (6, (1, 0, 0, 4294967296, b))] [] M := by
    intro f
    induction f with
    | zero =>
      intro i a b i1 a1 b1 hg hk hms
      clear hk
      omega
    | succ f ih =>
      intro i a b i1 a1 b1 hg hk hms
      refine hgo.1 21 [15] 15 _ _ _ ?_
      refine And.intro ?_ ?_
      · intro (c1 : 100 ≤ i)
        show xa_wk post (some (1, 0, 0, 4294967296, a)) M
        have z : b = 0 := by
          rcases hk with ⟨j, j0, j1, j2⟩ | ⟨j0, j1⟩
          · exfalso
            omega
          · exfalso
            omega
        rw [z, Int.gcd_zero_right] at hg
        clear hk
        exact xa_wkL a rfl (fun _ _ => by omega) (k a (by rw [← hg]; omega) (by omega))
      · intro (c1 : i < 100)
        refine And.intro ?_ ?_
        · intro (c2 : b = 0)
          show xa_wk post (some (1, 0, 0, 4294967296, a)) M
          have z : b = 0 := by
            clear hk
            omega
          clear hk
          rw [z, Int.gcd_zero_right] at hg
          exact xa_wkL a rfl (fun _ _ => by omega) (k a (by rw [← hg]; omega) (by omega))
        · intro (c2 : ¬ b = 0)
          refine And.intro (show 0 < b by omega) ?_
          show Q 15 [(8, (0, 0, 1, 101, i + 1)), (6, (1, 0, 0, 4294967295, a % b)), (4, (1, 0, 0, 4294967296, b)), (9, (1, 0, 0, 4294967295, a % b))] [] M
          have m0 := Int.emod_nonneg a (show b ≠ 0 by omega)
          have m1 := Int.emod_lt_of_pos a (show 0 < b by omega)
          refine hgo.2.1 15 _ [(8, (0, 0, 0, 100, i + 1)), (4, (1, 0, 0, 4294967296, b)), (6, (1, 0, 0, 4294967296, a % b))] _ _ (xa_subI rfl rfl (fun _ _ _ _ => by omega) (xa_subL rfl rfl (fun _ _ _ _ => by omega) (xa_subL rfl rfl (fun _ _ _ _ => by omega) (xa_sub0)))) ?_
          refine ih (i + 1) b (a % b) (by omega) (by omega) (by omega) (by rw [← hg]; exact xa_gcd_step (by omega) (by omega)) ?_ (by omega)
          rcases hk with ⟨j, j0, j1, j2⟩ | ⟨j0, j1⟩
          · have p1 := gc_pos (a := a) (b := b) (by omega) (by omega)
            rcases j with _ | j
            · rw [Int.pow_zero] at j1
              exact absurd j1 (by omega)
            · exact Or.inl ⟨j, by omega, gc_step (by omega) j0 j1, by omega⟩
          · exact Or.inl ⟨65, by omega, Int.lt_of_le_of_lt (Int.mul_le_mul (show b ≤ 4294967296 by omega) (show a % b ≤ 4294967296 by omega) (by omega) (by omega)) (by decide), by omega⟩
  refine hgo.1 13 [15] 0 _ _ _ ?_
  show xa_C (xl_I b) A h0 _ 56 [(1, 0, 0, 4294967296, x)] M _
  refine cx_56 ?_ ?_
  · intro (i1 : 0 ≤ x)
    show xa_C (xl_I b) A h0 _ 56 [(1, 0, 0, 4294967296, y)] M _
    refine cx_56 ?_ ?_
    · intro (i2 : 0 ≤ y)
      show Q 15 [(8, (0, 0, 0, 0, 0)), (6, (1, 0, (-9223372036854775808), 9223372036854775807, y)), (4, (1, 0, (-9223372036854775808), 9223372036854775807, x)), (0, (1, 0, 0, 4294967296, x)), (2, (1, 0, 0, 4294967296, y))] [] M
      refine hgo.2.1 15 _ [(8, (0, 0, 0, 100, 0)), (4, (1, 0, 0, 4294967296, x)), (6, (1, 0, 0, 4294967296, y))] _ _ (xa_subI rfl rfl (fun _ _ _ _ => by omega) (xa_subL rfl rfl (fun _ _ _ _ => by omega) (xa_subL rfl rfl (fun _ _ _ _ => by omega) (xa_sub0)))) ?_
      exact loop 101 0 x y (by omega) (by omega) (by omega) rfl (Or.inr ⟨rfl, by omega⟩) (by omega)
    · intro (i3 : y < 0)
      exfalso
      omega
  · intro (i4 : x < 0)
    exfalso
    omega
theorem cx_55p {b : Bool} {A : Nat → Nat} {h0 : g_H} {d : Nat} {M : xa_M} {post : Option xa_V → xa_M → Prop} {l1 u1 l2 u2 x y : Int} (hx : 1 ≤ x ∧ x ≤ 4294967296) (hy : 1 ≤ y ∧ y ≤ 4294967296) (k : ∀ g : Int, g = (Int.gcd x y : Int) → 1 ≤ g → g ≤ x → g ≤ y → post (some (1, 0, 0, 4294967296, g)) M) : xa_C (xl_I b) A h0 (d + 2) 55 [(1, 0, l1, u1, x), (1, 0, l2, u2, y)] M post := by
  refine cx_55f (by omega) (by omega) (fun g eg g0 => k g eg ?_ ?_ ?_)
  · have h9 : ¬ (Int.gcd x y = 0) := fun h => by
      have := (Int.gcd_eq_zero_iff.mp h).1
      omega
    omega
  · rw [eg]
    exact Int.le_of_dvd (by omega) (Int.gcd_dvd_left x y)
  · rw [eg]
    exact Int.le_of_dvd (by omega) (Int.gcd_dvd_right x y)
theorem cx_21f {b : Bool} {A : Nat → Nat} {h0 : g_H} {d : Nat} {M : xa_M} {post : Option xa_V → xa_M → Prop} {l1 u1 l2 u2 x y : Int} (lo hi : Int) (hx : 0 ≤ x ∧ x ≤ 9223372036854775807) (hy : 1 ≤ y ∧ y ≤ 9223372036854775807) (hl : lo ≤ x / y ∧ x / y ≤ hi) (k : post (some (1, 0, lo, hi, x / y)) M) : xa_C (xl_I b) A h0 (d + 1) 21 [(1, 0, l1, u1, x), (1, 0, l2, u2, y)] M post := by
  refine xa_C_wk ?_
  refine xa_C_arg [(1, 0, 0, 9223372036854775807, x), (1, 0, 0, 9223372036854775807, y)] (xa_svL (fun _ _ _ _ => by omega) (xa_svL (fun _ _ _ _ => by omega) xa_sv0)) ?_
  refine xa_meth (Q0 := (4, 3, false, 0, 0, 11)) (by decide +kernel) ⟨rfl, rfl⟩ (full := s_c_21) rfl rfl ?_
  intro hM hv Q hgo
  refine hgo.1 11 [] 0 _ _ _ ?_
  refine And.intro ?_ ?_
  · intro (c1 : ¬ y = 0)
    refine And.intro (show 0 < y by omega) ?_
    show xa_wk post (some (1, 0, 0, 9223372036854775807, x / y)) M
    exact xa_wkL (x / y) rfl (fun _ _ => hl) k
  · intro (c1 : y = 0)
    show xa_wk post (some (1, 0, 0, 0, 0)) M
    exfalso
    omega
theorem cx_90f {b : Bool} {A : Nat → Nat} {h0 : g_H} {d : Nat} {M : xa_M} {post : Option xa_V → xa_M → Prop} {l1 u1 l2 u2 up dn : Int} (hu : 1 ≤ up ∧ up ≤ 2000) (hd : 1 ≤ dn ∧ dn ≤ 2000) (k : ∀ g : Int, g = (Int.gcd up dn : Int) → 1 ≤ g → g ≤ up → g ≤ dn → post none (xa_up (xa_up (xa_up M 15 11 (up / g)) 15 12 (dn / g)) 15 13 0)) : xa_C (xl_I b) A h0 (d + 3) 90 [(2, 15, 0, 0, 0), (1, 0, l1, u1, up), (1, 0, l2, u2, dn)] M post := by
  refine xa_C_arg [(2, 15, 0, 0, 0), (1, 0, 1, 2000, up), (1, 0, 1, 2000, dn)] (xa_svR (xa_svL (fun _ _ _ _ => by omega) (xa_svL (fun _ _ _ _ => by omega) xa_sv0))) ?_
  refine xa_meth (Q0 := (7, 0, false, 0, 0, 3)) (by decide +kernel) ⟨rfl, rfl⟩ (full := s_c_90) rfl rfl ?_
  intro hM hv Q hgo
  refine hgo.1 22 [] 0 _ _ _ ?_
  show xa_C (xl_I b) A h0 _ 55 [(1, 0, 1, 2000, up), (1, 0, 1, 2000, dn)] M _
  refine cx_55p (by omega) (by omega) ?_
  intro g112 (i1 : g112 = (Int.gcd up dn : Int)) (i2 : 1 ≤ g112) (i3 : g112 ≤ up) (i4 : g112 ≤ dn)
  have dup := Int.ediv_nonneg (show 0 ≤ up by omega) (show 0 ≤ g112 by omega)
  have eup := Int.ediv_le_self g112 (show 0 ≤ up by omega)
  have ddn := Int.ediv_nonneg (show 0 ≤ dn by omega) (show 0 ≤ g112 by omega)
  have edn := Int.ediv_le_self g112 (show 0 ≤ dn by omega)
  show xa_C (xl_I b) A h0 _ 21 [(1, 0, 1, 2000, up), (1, 0, 0, 4294967296, g112)] M _
  refine cx_21f 0 2000 (by omega) (by omega) (by omega) ?_
  show xa_C (xl_I b) A h0 _ 21 [(1, 0, 1, 2000, dn), (1, 0, 0, 4294967296, g112)] (xa_up M 15 11 (up / g112)) _
  refine cx_21f 0 2000 (by omega) (by omega) (by omega) ?_
  show post none (xa_up (xa_up (xa_up M 15 11 (up / g112)) 15 12 (dn / g112)) 15 13 0)
  exact k g112 i1 (by omega) (by omega) (by omega)
-- the search of the reference
set_option maxRecDepth 20000
/-- least and most of the way's wheels -/
def fr_L (M : xa_M) : Int → Int := fun i => M 61 (M 80 i)
def fr_H (M : xa_M) : Int → Int := fun i => M 62 (M 80 i)
theorem fr_nx {M M1 : xa_M} {x v : Int} (hlo : ∀ i, 0 ≤ i → i ≤ x → M1 84 i = M 84 i) (hhi : ∀ i, x < i → i < M 60 32 → M1 84 i = M 61 (M 80 i)) (hmx : ∀ i, x < i → i < M 60 32 → M 84 i = M 62 (M 80 i)) (hx : 0 ≤ x ∧ x < M 60 32) (hv : v = M 84 x + 1) : fs_rk (fr_L M) (fr_H M) ((xa_up M1 84 x v) 84) (M 60 32).toNat = fs_rk (fr_L M) (fr_H M) (M 84) (M 60 32).toNat + 1 := by
  have ex : ((x.toNat : Nat) : Int) = x := Int.toNat_of_nonneg hx.1
  refine fs_succ (x := x.toNat) (fun i i0 i1 => ?_) ?_ (M 60 32).toNat (by omega) (fun i i0 i1 => ⟨hmx i (by omega) (by omega), ?_⟩)
  · rw [xm_up84, if_neg (by omega)]
    exact hlo i i0 (by omega)
  · rw [ex, xm_up84, if_pos rfl, hv]
  · rw [xm_up84, if_neg (by omega)]
    exact hhi i (by omega) (by omega)
theorem ct_nextWayF {A : Nat → Nat} {h0 : g_H} {d : Nat} {M : xa_M} {post : Option xa_V → xa_M → Prop} (hF : xm_fit M) (k : ∀ (r : Int) (M1 : xa_M), (r = 0 ∨ r = 1) → xm_84 M M1 → xm_fit M1 → (r = 1 → fs_rk (fr_L M) (fr_H M) (M1 84) (M 60 32).toNat = fs_rk (fr_L M) (fr_H M) (M 84) (M 60 32).toNat + 1) → (r = 0 → fs_rk (fr_L M) (fr_H M) (M 84) (M 60 32).toNat + 1 = fs_pr (fr_L M) (fr_H M) (M 60 32).toNat) → post (some (0, 0, 0, 1, r)) M1) : xa_C xm_I A h0 (d + 1) 243 [(2, 60, 0, 0, 0)] M post := by
  refine xa_C_wk ?_
  refine xa_meth (Q0 := (2, 2, false, 0, 0, 12)) (by decide +kernel) ⟨rfl, rfl⟩ (full := s_c_243) rfl rfl ?_
  intro hM hv Q hgo
  have b32 := xm_f32 hM
  have loop0 : ∀ (n : Nat) (x1 : Int) (M1 : xa_M), (-1) ≤ x1 ∧ x1 ≤ 13 → xm_cor M M1 → xm_84 M M1 → x1 < M 60 32 → (∀ i, 0 ≤ i → i ≤ x1 → M1 84 i = M 84 i) → (∀ i, x1 < i → i < M 60 32 → M1 84 i = M 61 (M 80 i)) → (∀ i, x1 < i → i < M 60 32 → M 84 i = M 62 (M 80 i)) → x1 + 1 < (n : Int) → Q 7 [(1, (0, 0, (-1), 13, x1)), (0, (2, 60, 0, 0, 0))] [] M1 := by
    intro n
    induction n with
    | zero => intro x1 M1 b1 hc h84 hw hlo hhi hmx hms; omega
    | succ n ih0 =>
      intro x1 M1 b1 hc h84 hw hlo hhi hmx hms0
      refine hgo.2.2 _ _ _ _ (fun hM1 _ => ?_)
      have e32 := h84 60 32 (by decide)
      have e80 := h84 80 x1 (by decide)
      have e61 : M1 61 (M1 80 x1) = M 61 (M 80 x1) := by rw [e80]; exact h84 61 _ (by decide)
      have e62 : M1 62 (M1 80 x1) = M 62 (M 80 x1) := by rw [e80]; exact h84 62 _ (by decide)
      have t80 : 0 ≤ x1 → 0 ≤ M 80 x1 ∧ M 80 x1 ≤ 13 := fun h => xm_t80 hM x1 (by omega) (by omega)
      have t61 : 0 ≤ x1 → 0 ≤ M 61 (M 80 x1) ∧ M 61 (M 80 x1) ≤ 400 := fun h => xm_t61 hM _ (t80 h).1 (by have := t80 h; omega)
      have t62 : 0 ≤ x1 → 0 ≤ M 62 (M 80 x1) ∧ M 62 (M 80 x1) ≤ 400 := fun h => xm_t62 hM _ (t80 h).1 (by have := t80 h; omega)
      have f1 : 0 ≤ x1 → M 61 (M 80 x1) ≤ M 84 x1 ∧ M 84 x1 ≤ M 62 (M 80 x1) := fun h => hF x1 h (by omega)
      have q1 : 0 ≤ x1 → M1 84 x1 = M 84 x1 := fun h => hlo x1 h (by omega)
      refine hgo.1 32 [7] 7 _ _ _ ?_
      refine And.intro ?_ ?_
      · intro (c1 : x1 < 0)
        refine And.intro ?_ ?_
        · intro (c2 : 0 ≤ x1)
          refine And.intro (show 0 ≤ x1 ∧ x1 < 14 by omega) ?_
          refine And.intro (show 0 ≤ x1 ∧ x1 < 14 by omega) ?_
          refine And.intro (show 0 ≤ ((M1 84 x1) + 1) ∧ ((M1 84 x1) + 1) ≤ 400 by omega) ?_
          show xa_wk post (some (0, 0, 1, 1, 1)) (xa_up M1 84 x1 ((M1 84 x1) + 1))
          exact xa_wkI 1 rfl (fun _ _ => by omega) (k 1 _ (Or.inr rfl) (xm_84_u h84) (xm_nxg hF h84 hlo hhi (by omega) (by omega) (by omega)) (fun _ => fr_nx hlo hhi hmx (by omega) (by omega)) (fun e => absurd e (by decide)))
        · intro (c2 : x1 < 0)
          show xa_wk post (some (0, 0, 0, 0, 0)) M1
          exact xa_wkI 0 rfl (fun _ _ => by omega) (k 0 M1 (Or.inl rfl) h84 (xm_nxf hF h84 (fun i i0 i1 => hhi i (by omega) (by omega))) (fun e => absurd e (by decide)) (fun _ => fs_last _ (fun i i0 i1 => hmx i (by omega) (by omega))))
      · intro (c1 : 0 ≤ x1)
        refine And.intro (show 0 ≤ x1 ∧ x1 < 14 by omega) ?_
        refine And.intro (show 0 ≤ x1 ∧ x1 < 14 by omega) ?_
        refine And.intro ?_ ?_
        · intro (c3 : ¬ (M1 84 x1) = (M1 62 (M1 80 x1)))
          refine And.intro ?_ ?_
          · intro (c4 : 0 ≤ x1)
            refine And.intro (show 0 ≤ x1 ∧ x1 < 14 by omega) ?_
            refine And.intro (show 0 ≤ x1 ∧ x1 < 14 by omega) ?_
            refine And.intro (show 0 ≤ ((M1 84 x1) + 1) ∧ ((M1 84 x1) + 1) ≤ 400 by omega) ?_
            show xa_wk post (some (0, 0, 1, 1, 1)) (xa_up M1 84 x1 ((M1 84 x1) + 1))
            exact xa_wkI 1 rfl (fun _ _ => by omega) (k 1 _ (Or.inr rfl) (xm_84_u h84) (xm_nxg hF h84 hlo hhi (by omega) (by omega) (by omega)) (fun _ => fr_nx hlo hhi hmx (by omega) (by omega)) (fun e => absurd e (by decide)))
          · intro (c4 : x1 < 0)
            show xa_wk post (some (0, 0, 0, 0, 0)) M1
            exact xa_wkI 0 rfl (fun _ _ => by omega) (k 0 M1 (Or.inl rfl) h84 (xm_nxf hF h84 (fun i i0 i1 => hhi i (by omega) (by omega))) (fun e => absurd e (by decide)) (fun _ => fs_last _ (fun i i0 i1 => hmx i (by omega) (by omega))))
        · intro (c3 : (M1 84 x1) = (M1 62 (M1 80 x1)))
          refine And.intro (show 0 ≤ x1 ∧ x1 < 14 by omega) ?_
          refine And.intro (show 0 ≤ x1 ∧ x1 < 14 by omega) ?_
          show Q 7 [(1, (0, 0, (-2), 12, x1 + (-1))), (0, (2, 60, 0, 0, 0))] [] (xa_up M1 84 x1 (M1 61 (M1 80 x1)))
          refine hgo.2.1 7 _ [(1, (0, 0, (-1), 13, x1 + (-1))), (0, (2, 60, 0, 0, 0))] _ _ (xa_subI rfl rfl (fun _ _ _ _ => by omega) (xa_subR rfl xa_sub0)) ?_
          exact ih0 (x1 + (-1)) (xa_up M1 84 x1 (M1 61 (M1 80 x1))) (by omega) (xm_cor_a rfl hc) (xm_84_u h84) (by omega) (fun i i0 i1 => by rw [xm_up84, if_neg (by omega)]; exact hlo i i0 (by omega)) (fun i i0 i1 => by rw [xm_up84]; by_cases e : i = x1; (rw [if_pos e, e, e61]); (rw [if_neg e]; exact hhi i (by omega) i1)) (fun i i0 i1 => by by_cases e : i = x1; (rw [e]; omega); (exact hmx i (by omega) i1)) (by omega)
  refine hgo.1 10 [7] 0 _ _ _ ?_
  show Q 7 [(1, (0, 0, (-1), 13, (M 60 32) - 1)), (0, (2, 60, 0, 0, 0))] [] M
  refine hgo.2.1 7 _ [(1, (0, 0, (-1), 13, (M 60 32) - 1)), (0, (2, 60, 0, 0, 0))] _ _ (xa_subI rfl rfl (fun _ _ _ _ => by omega) (xa_subR rfl xa_sub0)) ?_
  exact loop0 15 ((M 60 32) - 1) M (by omega) xm_cor_r xm_84_r (by omega) (fun i i0 i1 => rfl) (fun i i0 i1 => by omega) (fun i i0 i1 => by omega) (by omega)
/-- the product of an array's first numbers -/
def if_p (f : Int → Int) : Nat → Int
  | 0 => 1
  | n + 1 => if_p f n * f n
theorem if_p1 {f : Int → Int} {n : Nat} : if_p f (n + 1) = if_p f n * f n := rfl
theorem if_pe {f g : Int → Int} (n : Nat) : (∀ i : Int, 0 ≤ i → i < n → g i = f i) → if_p g n = if_p f n := by
  induction n with
  | zero => intro _; rfl
  | succ n ih =>
    intro h
    rw [if_p1, if_p1, ih (fun i i0 i1 => h i i0 (by omega)), h n (by omega) (by omega)]
theorem if_pu {f g : Int → Int} {x : Nat} {c : Int} (hx : f x = g x * c) (ho : ∀ i : Int, ¬ i = x → g i = f i) (n : Nat) : x < n → if_p f n = if_p g n * c := by
  induction n with
  | zero => intro h; omega
  | succ n ih =>
    intro h
    rw [if_p1, if_p1]
    by_cases e : x = n
    · rw [← e, hx, if_pe (g := g) (f := f) x (fun i i0 i1 => ho i (by omega)), Int.mul_assoc]
    · rw [ih (by omega), ho n (by omega), Int.mul_assoc, Int.mul_comm c, Int.mul_assoc]
theorem if_pos1 {f : Int → Int} (n : Nat) : (∀ i : Int, 0 ≤ i → i < n → 1 ≤ f i) → 1 ≤ if_p f n := by
  induction n with
  | zero => intro _; exact Int.le_refl 1
  | succ n ih =>
    intro h
    have a := ih (fun i i0 i1 => h i i0 (by omega))
    have m := Int.mul_le_mul a (h n (by omega) (by omega)) (by decide) (by omega)
    rw [Int.one_mul] at m
    exact m
theorem if_one {f : Int → Int} (n : Nat) : (∀ i : Int, 0 ≤ i → i < n → f i = 1) → if_p f n = 1 := by
  induction n with
  | zero => intro _; rfl
  | succ n ih =>
    intro h
    rw [if_p1, ih (fun i i0 i1 => h i i0 (by omega)), h n (by omega) (by omega)]
    rfl
theorem if_ones {f : Int → Int} (n : Nat) : (∀ i : Int, 0 ≤ i → i < n → 1 ≤ f i) → if_p f n = 1 → ∀ i : Int, 0 ≤ i → i < n → f i = 1 := by
  induction n with
  | zero => intro _ _ i i0 i1; omega
  | succ n ih =>
    intro h e i i0 i1
    have a := if_pos1 n (fun i i0 i1 => h i i0 (by omega))
    have b := h n (by omega) (by omega)
    rw [if_p1] at e
    have m1 := Int.mul_le_mul_of_nonneg_left b (show 0 ≤ if_p f n by omega)
    have m2 := Int.mul_le_mul_of_nonneg_right a (show 0 ≤ f n by omega)
    rw [Int.mul_one] at m1
    rw [Int.one_mul] at m2
    by_cases c : i = n
    · rw [c]
      omega
    · exact ih (fun i i0 i1 => h i i0 (by omega)) (by omega) i i0 (by omega)
theorem if_gm {x z y : Int} (h1 : Int.gcd x y = 1) (h2 : Int.gcd z y = 1) : Int.gcd (x * z) y = 1 := by
  unfold Int.gcd at h1 h2 ⊢
  rw [Int.natAbs_mul]
  exact Nat.Coprime.mul_left h1 h2
theorem if_gp {f : Int → Int} {y : Int} (n : Nat) : (∀ i : Int, 0 ≤ i → i < n → Int.gcd (f i) y = 1) → Int.gcd (if_p f n) y = 1 := by
  induction n with
  | zero =>
    intro _
    show Int.gcd 1 y = 1
    rw [Int.gcd_comm]
    exact Int.gcd_one
  | succ n ih =>
    intro h
    rw [if_p1]
    exact if_gm (ih (fun i i0 i1 => h i i0 (by omega))) (h n (by omega) (by omega))
theorem if_gq {f g : Int → Int} {n m : Nat} (h : ∀ i j : Int, 0 ≤ i → i < n → 0 ≤ j → j < m → Int.gcd (f i) (g j) = 1) : Int.gcd (if_p f n) (if_p g m) = 1 := if_gp n (fun i i0 i1 => by
  rw [Int.gcd_comm]
  exact if_gp m (fun j j0 j1 => by
    rw [Int.gcd_comm]
    exact h i j i0 i1 j0 j1))
/-- what is left of two products -/
def if_S (A B : Int) (M : xa_M) (x y : Int) : Prop := ∃ G : Int, 1 ≤ G ∧ A = if_p (M 85) x.toNat * G ∧ B = if_p (M 86) y.toNat * G
def if_C (M : xa_M) (x y z : Int) : Prop := ∀ i j : Int, 0 ≤ i → 0 ≤ j → (i < x ∧ j < z) ∨ (i = x ∧ j < y) → Int.gcd (M 85 i) (M 86 j) = 1
theorem if_eq {A B : Int} {M : xa_M} {x y : Int} (hS : if_S A B M x y) (hC : if_C M x 0 y) (h5 : xm_ge M 85 x) (h6 : xm_ge M 86 y) (h : A = B) : (∀ i : Int, 0 ≤ i → i < x → M 85 i = 1) ∧ ∀ i : Int, 0 ≤ i → i < y → M 86 i = 1 := by
  obtain ⟨G, hG, hA, hB⟩ := hS
  have e : if_p (M 85) x.toNat = if_p (M 86) y.toNat := Int.eq_of_mul_eq_mul_right (show G ≠ 0 by omega) (by rw [← hA, ← hB]; exact h)
  have g := if_gq (f := M 85) (g := M 86) (n := x.toNat) (m := y.toNat) (fun i j i0 i1 j0 j1 => hC i j i0 j0 (Or.inl ⟨by omega, by omega⟩))
  have p1 := if_pos1 (f := M 85) x.toNat (fun i i0 i1 => h5 i i0 (by omega))
  rw [← e, Int.gcd_self] at g
  have o1 : if_p (M 85) x.toNat = 1 := by omega
  exact ⟨fun i i0 i1 => if_ones x.toNat (fun i i0 i1 => h5 i i0 (by omega)) o1 i i0 (by omega), fun i i0 i1 => if_ones y.toNat (fun i i0 i1 => h6 i i0 (by omega)) (e.symm.trans o1) i i0 (by omega)⟩
theorem if_qe {A B : Int} {M : xa_M} {x y : Int} (hS : if_S A B M x y) (h5 : ∀ i : Int, 0 ≤ i → i < x → M 85 i = 1) (h6 : ∀ i : Int, 0 ≤ i → i < y → M 86 i = 1) : A = B := by
  obtain ⟨G, hG, hA, hB⟩ := hS
  rw [hA, hB, if_one x.toNat (fun i i0 i1 => h5 i i0 (by omega)), if_one y.toNat (fun i i0 i1 => h6 i i0 (by omega))]
theorem if_gd {x y c d : Int} (h : Int.gcd (x * c) (y * d) = 1) : Int.gcd x y = 1 := by
  unfold Int.gcd at h ⊢
  rw [Int.natAbs_mul, Int.natAbs_mul] at h
  have h : Nat.Coprime (x.natAbs * c.natAbs) (y.natAbs * d.natAbs) := h
  exact (h.coprime_mul_right).coprime_mul_right_right
/-- two numbers are shortened -/
theorem if_st {A B g u w : Int} {M : xa_M} {x y i j : Int} (hS : if_S A B M x y) (hC : if_C M i j y) (hi : 0 ≤ i ∧ i < x) (hj : 0 ≤ j ∧ j < y) (hg : 1 ≤ g) (hu : M 85 i = u * g) (hw : M 86 j = w * g) (hc : Int.gcd u w = 1) : if_S A B (xa_up (xa_up M 85 i u) 86 j w) x y ∧ if_C (xa_up (xa_up M 85 i u) 86 j w) i (j + 1) y := by
  have a5 : (xa_up (xa_up M 85 i u) 86 j w) 85 i = u := (xa_up_ne (by omega)).trans xa_up_eq
  have a6 : (xa_up (xa_up M 85 i u) 86 j w) 86 j = w := xa_up_eq
  have o5 : ∀ k : Int, ¬ k = i → (xa_up (xa_up M 85 i u) 86 j w) 85 k = M 85 k := fun k h => (xa_up_ne (by omega)).trans (xa_up_ne (by omega))
  have o6 : ∀ k : Int, ¬ k = j → (xa_up (xa_up M 85 i u) 86 j w) 86 k = M 86 k := fun k h => (xa_up_ne (by omega)).trans (xa_up_ne (by omega))
  generalize xa_up (xa_up M 85 i u) 86 j w = M2 at a5 a6 o5 o6 ⊢
  have ei : ((i.toNat : Nat) : Int) = i := Int.toNat_of_nonneg hi.1
  have ej : ((j.toNat : Nat) : Int) = j := Int.toNat_of_nonneg hj.1
  obtain ⟨G, hG, hA, hB⟩ := hS
  refine ⟨⟨g * G, ?_, ?_, ?_⟩, fun k l k0 l0 hkl => ?_⟩
  · have m := Int.mul_le_mul hg hG (by decide) (show 0 ≤ g by omega)
    rw [Int.one_mul] at m
    exact m
  · rw [hA, if_pu (f := M 85) (g := M2 85) (x := i.toNat) (c := g) (by rw [ei, a5]; exact hu) (fun k h => o5 k (by omega)) x.toNat (by omega), Int.mul_assoc]
  · rw [hB, if_pu (f := M 86) (g := M2 86) (x := j.toNat) (c := g) (by rw [ej, a6]; exact hw) (fun k h => o6 k (by omega)) y.toNat (by omega), Int.mul_assoc]
  · by_cases e1 : k = i
    · by_cases e2 : l = j
      · rw [e1, e2, a5, a6]
        exact hc
      · have h := hC i l hi.1 l0 (by omega)
        rw [e1, a5, o6 l e2]
        rw [hu] at h
        exact if_gd (c := g) (d := 1) (by rw [Int.mul_one (M 86 l)]; exact h)
    · rw [o5 k e1]
      by_cases e2 : l = j
      · have h := hC k j k0 hj.1 (by omega)
        rw [e2, a6]
        rw [hw] at h
        exact if_gd (c := 1) (d := g) (by rw [Int.mul_one (M 85 k)]; exact h)
      · rw [o6 l e2]
        exact hC k l k0 l0 (by omega)
/-- a number more -/
theorem if_ad5 {M : xa_M} {x v : Int} (h : 0 ≤ x) : if_p ((xa_up M 85 x v) 85) (x + 1).toNat = if_p (M 85) x.toNat * v := by
  have ex : ((x.toNat : Nat) : Int) = x := Int.toNat_of_nonneg h
  rw [show (x + 1).toNat = x.toNat + 1 by omega, if_p1, ex, xa_up_eq, if_pe x.toNat (fun i i0 i1 => xa_up_ne (by omega))]
theorem if_ad6 {M : xa_M} {x v : Int} (h : 0 ≤ x) : if_p ((xa_up M 86 x v) 86) (x + 1).toNat = if_p (M 86) x.toNat * v := by
  have ex : ((x.toNat : Nat) : Int) = x := Int.toNat_of_nonneg h
  rw [show (x + 1).toNat = x.toNat + 1 by omega, if_p1, ex, xa_up_eq, if_pe x.toNat (fun i i0 i1 => xa_up_ne (by omega))]
theorem if_us {R V : Int → Int} {x : Int} (h : 0 ≤ x) : fs_u R V (x + 1).toNat = fs_u R V x.toNat * (if 0 < R x then V x else 1) ∧ fs_d R V (x + 1).toNat = fs_d R V x.toNat * (if R x < 0 then V x else 1) := by
  have ex : ((x.toNat : Nat) : Int) = x := Int.toNat_of_nonneg h
  rw [show (x + 1).toNat = x.toNat + 1 by omega, fs_u1, fs_d1, ex]
  exact ⟨rfl, rfl⟩
theorem if_tq {x g : Int} (hg : 1 ≤ g) (hx : 0 ≤ x) (hd : g ∣ x) : x = x.tdiv g * g := by
  rw [Int.tdiv_eq_ediv_of_nonneg hx]
  exact (Int.ediv_mul_cancel hd).symm
theorem if_cop {x y g : Int} (hx : 0 ≤ x) (hy : 0 ≤ y) (hg : g = (Int.gcd x y : Int)) (h1 : 1 ≤ g) : Int.gcd (x.tdiv g) (y.tdiv g) = 1 := by
  have d1 : g ∣ x := by rw [hg]; exact Int.gcd_dvd_left x y
  have d2 : g ∣ y := by rw [hg]; exact Int.gcd_dvd_right x y
  rw [Int.tdiv_eq_ediv_of_nonneg hx, Int.tdiv_eq_ediv_of_nonneg hy, Int.gcd_ediv d1 d2]
  have e : g.natAbs = Int.gcd x y := by rw [hg]; exact Int.natAbs_natCast _
  rw [e]
  exact Nat.div_self (by omega)
theorem xm_if97F {A : Nat → Nat} {h0 : g_H} {d : Nat} {M : xa_M} {post : Option xa_V → xa_M → Prop} {p : Int} (hM : xa_Mok xm_I M) (hI : xm_Inv M) (ht : ∀ i, 0 ≤ i → i < M 60 32 → 10 ≤ M 84 i) (p0 : 0 ≤ p) (p1 : p < M 60 11) (k : ∀ (r : Int) (M1 : xa_M), (r = 0 ∨ r = 1) → (r = 1 ↔ M 71 p * fs_u (M 81) (M 84) (M 60 32).toNat = M 70 p * fs_d (M 81) (M 84) (M 60 32).toNat) → (∀ q j, q ≠ 85 → q ≠ 86 → M1 q j = M q j) → post (some (0, 0, 0, 1, r)) M1) {Q : xa_Q} (hgo : xa_go xm_I (xa_C xm_I A h0 (d + 2)) (xa_wk post) s_c_242 10 2 Q) : Q 97 [(1, (0, 0, 0, 7, p)), (0, (2, 60, 0, 0, 0))] [] M := by
  have b11 := xm_f11 hM
  have hpp := hI.2.2.1 p p0 p1
  have loop4 : ∀ (n : Nat) (x6 x5 : Int) (M1 : xa_M), 0 ≤ x6 ∧ x6 ≤ 15 → 0 ≤ x5 ∧ x5 ≤ 15 → xm_cor M M1 → xm_fr M M1 → (M 71 p * fs_u (M 81) (M 84) (M 60 32).toNat = M 70 p * fs_d (M 81) (M 84) (M 60 32).toNat ↔ ∀ i : Int, 0 ≤ i → i < x5 → M1 86 i = 1) → (∀ i : Int, 0 ≤ i → i < x6 → M1 86 i = 1) → 15 - x6 < (n : Int) → Q 322 [(6, (0, 0, 0, 15, x6)), (5, (0, 0, 0, 15, x5)), (0, (2, 60, 0, 0, 0))] [] M1 := by
    intro n
    induction n with
    | zero => intro x6 x5 M1 b6 b5 hc hfr hE h1 hms; omega
    | succ n ih4 =>
      intro x6 x5 M1 b6 b5 hc hfr hE h1 hms4
      refine hgo.1 16 [140, 217, 227, 292, 322] 322 _ _ _ ?_
      refine And.intro ?_ ?_
      · intro (c1 : x5 ≤ x6)
        show xa_wk post (some (0, 0, 1, 1, 1)) M1
        exact xa_wkI 1 rfl (fun _ _ => by omega) (k 1 _ (by omega) ⟨fun _ => hE.mpr (fun i i0 i1 => h1 i i0 (by omega)), fun _ => rfl⟩ hfr)
      · intro (c1 : x6 < x5)
        refine And.intro (show 0 ≤ x6 ∧ x6 < 15 by omega) ?_
        refine And.intro ?_ ?_
        · intro (c2 : (M1 86 x6) = 1)
          show Q 322 [(6, (0, 0, 1, 16, x6 + 1)), (5, (0, 0, 0, 15, x5)), (0, (2, 60, 0, 0, 0))] [] M1
          refine hgo.2.1 322 _ [(6, (0, 0, 0, 15, x6 + 1)), (5, (0, 0, 0, 15, x5)), (0, (2, 60, 0, 0, 0))] _ _ (xa_subI rfl rfl (fun _ _ _ _ => by omega) (xa_subI rfl rfl (fun _ _ _ _ => by omega) (xa_subR rfl xa_sub0))) ?_
          exact ih4 (x6 + 1) x5 M1 (by omega) (by omega) hc hfr hE (fun i i0 i1 => by by_cases e : i = x6; (rw [e]; exact c2); (exact h1 i i0 (by omega))) (by omega)
        · intro (c2 : ¬ (M1 86 x6) = 1)
          show xa_wk post (some (0, 0, 0, 0, 0)) M1
          exact xa_wkI 0 rfl (fun _ _ => by omega) (k 0 _ (by omega) ⟨fun h => absurd h (by decide), fun h => absurd (hE.mp h x6 b6.1 c1) c2⟩ hfr)
  have loop3 : ∀ (n : Nat) (x6 x5 x4 : Int) (M1 : xa_M), 0 ≤ x6 ∧ x6 ≤ 15 → 0 ≤ x5 ∧ x5 ≤ 15 → 0 ≤ x4 ∧ x4 ≤ 15 → xm_cor M M1 → xm_fr M M1 → if_S (M 71 p * fs_u (M 81) (M 84) (M 60 32).toNat) (M 70 p * fs_d (M 81) (M 84) (M 60 32).toNat) M1 x4 x5 → if_C M1 x4 0 x5 → xm_ge M1 85 x4 → xm_ge M1 86 x5 → (∀ i : Int, 0 ≤ i → i < x6 → M1 85 i = 1) → 15 - x6 < (n : Int) → Q 292 [(6, (0, 0, 0, 15, x6)), (5, (0, 0, 0, 15, x5)), (4, (0, 0, 0, 15, x4)), (0, (2, 60, 0, 0, 0))] [] M1 := by
    intro n
    induction n with
    | zero => intro x6 x5 x4 M1 b6 b5 b4 hc hfr hS hC g5 g6 h1 hms; clear hS; omega
    | succ n ih3 =>
      intro x6 x5 x4 M1 b6 b5 b4 hc hfr hS hC g5 g6 h1 hms3
      refine hgo.1 16 [140, 217, 227, 292, 322] 292 _ _ _ ?_
      refine And.intro ?_ ?_
      · intro (c1 : x4 ≤ x6)
        show Q 322 [(6, (0, 0, 0, 0, 0)), (5, (0, 0, 0, 15, x5)), (4, (0, 0, 0, 15, x4)), (0, (2, 60, 0, 0, 0))] [] M1
        refine hgo.2.1 322 _ [(6, (0, 0, 0, 15, 0)), (5, (0, 0, 0, 15, x5)), (0, (2, 60, 0, 0, 0))] _ _ (xa_subI rfl rfl (fun _ _ _ _ => by omega) (xa_subI rfl rfl (fun _ _ _ _ => by omega) (xa_subR rfl xa_sub0))) ?_
        exact loop4 16 0 x5 M1 (by omega) (by omega) hc hfr ⟨fun h => (if_eq hS hC g5 g6 h).2, fun h => if_qe hS (fun i i0 i1 => h1 i i0 (by omega)) h⟩ (fun i i0 i1 => by omega) (by omega)
      · intro (c1 : x6 < x4)
        refine And.intro (show 0 ≤ x6 ∧ x6 < 15 by omega) ?_
        refine And.intro ?_ ?_
        · intro (c2 : (M1 85 x6) = 1)
          show Q 292 [(6, (0, 0, 1, 16, x6 + 1)), (5, (0, 0, 0, 15, x5)), (4, (0, 0, 0, 15, x4)), (0, (2, 60, 0, 0, 0))] [] M1
          refine hgo.2.1 292 _ [(6, (0, 0, 0, 15, x6 + 1)), (5, (0, 0, 0, 15, x5)), (4, (0, 0, 0, 15, x4)), (0, (2, 60, 0, 0, 0))] _ _ (xa_subI rfl rfl (fun _ _ _ _ => by omega) (xa_subI rfl rfl (fun _ _ _ _ => by omega) (xa_subI rfl rfl (fun _ _ _ _ => by omega) (xa_subR rfl xa_sub0)))) ?_
          exact ih3 (x6 + 1) x5 x4 M1 (by omega) (by omega) (by omega) hc hfr hS hC g5 g6 (fun i i0 i1 => by by_cases e : i = x6; (rw [e]; exact c2); (exact h1 i i0 (by omega))) (by omega)
        · intro (c2 : ¬ (M1 85 x6) = 1)
          show xa_wk post (some (0, 0, 0, 0, 0)) M1
          exact xa_wkI 0 rfl (fun _ _ => by omega) (k 0 _ (by omega) ⟨fun h => absurd h (by decide), fun h => absurd ((if_eq hS hC g5 g6 h).1 x6 b6.1 c1) c2⟩ hfr)
  have loop1 : ∀ (n : Nat) (x6 x5 x4 : Int) (M1 : xa_M), 0 ≤ x6 ∧ x6 ≤ 15 → 0 ≤ x5 ∧ x5 ≤ 15 → 0 ≤ x4 ∧ x4 ≤ 15 → xm_cor M M1 → xm_fr M M1 → xm_ge M1 85 x4 → xm_ge M1 86 x5 → if_S (M 71 p * fs_u (M 81) (M 84) (M 60 32).toNat) (M 70 p * fs_d (M 81) (M 84) (M 60 32).toNat) M1 x4 x5 → if_C M1 x6 0 x5 → 15 - x6 < (n : Int) → Q 217 [(6, (0, 0, 0, 15, x6)), (5, (0, 0, 0, 15, x5)), (4, (0, 0, 0, 15, x4)), (0, (2, 60, 0, 0, 0))] [] M1 := by
    intro n
    induction n with
    | zero => intro x6 x5 x4 M1 b6 b5 b4 hc hfr hg85 hg86 hS hC hms; omega
    | succ n ih1 =>
      intro x6 x5 x4 M1 b6 b5 b4 hc hfr hg85 hg86 hS hC hms1
      obtain ⟨n0, hn0⟩ : ∃ n0, n0 = n := ⟨_, rfl⟩
      have loop2 : ∀ (n : Nat) (x7 x6 x5 x4 : Int) (M1 : xa_M), 0 ≤ x7 ∧ x7 ≤ 15 → 0 ≤ x6 ∧ x6 ≤ 14 → 0 ≤ x5 ∧ x5 ≤ 15 → 0 ≤ x4 ∧ x4 ≤ 15 → xm_cor M M1 → xm_fr M M1 → xm_ge M1 85 x4 → xm_ge M1 86 x5 → x6 < x4 → 14 - x6 < (n0 : Int) → if_S (M 71 p * fs_u (M 81) (M 84) (M 60 32).toNat) (M 70 p * fs_d (M 81) (M 84) (M 60 32).toNat) M1 x4 x5 → if_C M1 x6 x7 x5 → 15 - x7 < (n : Int) → Q 227 [(7, (0, 0, 0, 15, x7)), (6, (0, 0, 0, 14, x6)), (5, (0, 0, 0, 15, x5)), (4, (0, 0, 0, 15, x4)), (0, (2, 60, 0, 0, 0))] [] M1 := by
        intro n
        induction n with
        | zero => intro x7 x6 x5 x4 M1 b7 b6 b5 b4 hc hfr hg85 hg86 h64 h60 hS hC hms; omega
        | succ n ih2 =>
          intro x7 x6 x5 x4 M1 b7 b6 b5 b4 hc hfr hg85 hg86 h64 h60 hS hC hms2
          have a1 := hg85 x6 (by omega) h64
          have a2 := fun h : x7 < x5 => hg86 x7 (by omega) h
          refine hgo.1 36 [140, 217, 227, 292, 322] 227 _ _ _ ?_
          refine And.intro ?_ ?_
          · intro (c1 : x5 ≤ x7)
            show Q 217 [(6, (0, 0, 1, 15, x6 + 1)), (7, (0, 0, 0, 15, x7)), (5, (0, 0, 0, 15, x5)), (4, (0, 0, 0, 15, x4)), (0, (2, 60, 0, 0, 0))] [] M1
            refine hgo.2.1 217 _ [(6, (0, 0, 0, 15, x6 + 1)), (5, (0, 0, 0, 15, x5)), (4, (0, 0, 0, 15, x4)), (0, (2, 60, 0, 0, 0))] _ _ (xa_subI rfl rfl (fun _ _ _ _ => by omega) (xa_subI rfl rfl (fun _ _ _ _ => by omega) (xa_subI rfl rfl (fun _ _ _ _ => by omega) (xa_subR rfl xa_sub0)))) ?_
            exact ih1 (x6 + 1) x5 x4 M1 (by omega) (by omega) (by omega) hc hfr hg85 hg86 hS (fun i j i0 j0 h => hC i j i0 j0 (by omega)) (by omega)
          · intro (c1 : x7 < x5)
            refine And.intro (show 0 ≤ x7 ∧ x7 < 15 by omega) ?_
            show xa_C xm_I A h0 _ 229 [(1, 0, (-9223372036854775808), 9223372036854775807, M1 85 x6), (1, 0, (-9223372036854775808), 9223372036854775807, M1 86 x7)] M1 _
            refine ct_gcd3 (by omega) (by omega) (fun g2 eg2 pg2 qg2 ug2 => ?_)
            have tx := xm_td (x := M1 85 x6) (g := g2) (by omega) (by omega)
            have ty := xm_td (x := M1 86 x7) (g := g2) (by omega) (by omega)
            refine And.intro (show 0 ≤ x7 ∧ x7 < 15 by omega) ?_
            refine And.intro (show 0 ≤ x7 ∧ x7 < 15 by omega) ?_
            show Q 227 [(7, (0, 0, 1, 16, x7 + 1)), (8, (1, 0, 1, 9223372036854775807, g2)), (6, (0, 0, 0, 14, x6)), (5, (0, 0, 0, 15, x5)), (4, (0, 0, 0, 15, x4)), (0, (2, 60, 0, 0, 0))] [] (xa_up (xa_up M1 85 x6 ((M1 85 x6).tdiv g2)) 86 x7 ((M1 86 x7).tdiv g2))
            refine hgo.2.1 227 _ [(7, (0, 0, 0, 15, x7 + 1)), (6, (0, 0, 0, 14, x6)), (5, (0, 0, 0, 15, x5)), (4, (0, 0, 0, 15, x4)), (0, (2, 60, 0, 0, 0))] _ _ (xa_subI rfl rfl (fun _ _ _ _ => by omega) (xa_subI rfl rfl (fun _ _ _ _ => by omega) (xa_subI rfl rfl (fun _ _ _ _ => by omega) (xa_subI rfl rfl (fun _ _ _ _ => by omega) (xa_subR rfl xa_sub0))))) ?_
            obtain ⟨s1, s2⟩ := if_st (g := g2) (u := (M1 85 x6).tdiv g2) (w := (M1 86 x7).tdiv g2) hS hC (by omega) (by omega) pg2 (if_tq pg2 (by omega) (by rw [eg2]; exact Int.gcd_dvd_left _ _)) (if_tq pg2 (by omega) (by rw [eg2]; exact Int.gcd_dvd_right _ _)) (if_cop (by omega) (by omega) eg2 pg2)
            exact ih2 (x7 + 1) x6 x5 x4 (xa_up (xa_up M1 85 x6 ((M1 85 x6).tdiv g2)) 86 x7 ((M1 86 x7).tdiv g2)) (by omega) (by omega) (by omega) (by omega) (xm_cor_a rfl (xm_cor_a rfl hc)) (xm_fr_u (by decide) (xm_fr_u (by decide) hfr)) (xm_ge_o (by decide) (xm_ge_i hg85 (by omega))) (xm_ge_i (xm_ge_o (by decide) hg86) (by omega)) (by omega) (by omega) s1 s2 (by omega)
      refine hgo.1 10 [140, 217, 227, 292, 322] 217 _ _ _ ?_
      refine And.intro ?_ ?_
      · intro (c1 : x4 ≤ x6)
        show Q 292 [(6, (0, 0, 0, 0, 0)), (5, (0, 0, 0, 15, x5)), (4, (0, 0, 0, 15, x4)), (0, (2, 60, 0, 0, 0))] [] M1
        refine hgo.2.1 292 _ [(6, (0, 0, 0, 15, 0)), (5, (0, 0, 0, 15, x5)), (4, (0, 0, 0, 15, x4)), (0, (2, 60, 0, 0, 0))] _ _ (xa_subI rfl rfl (fun _ _ _ _ => by omega) (xa_subI rfl rfl (fun _ _ _ _ => by omega) (xa_subI rfl rfl (fun _ _ _ _ => by omega) (xa_subR rfl xa_sub0)))) ?_
        exact loop3 16 0 x5 x4 M1 (by omega) (by omega) (by omega) hc hfr hS (fun i j i0 j0 h => hC i j i0 j0 (by omega)) hg85 hg86 (fun i i0 i1 => by omega) (by omega)
      · intro (c1 : x6 < x4)
        show Q 227 [(7, (0, 0, 0, 0, 0)), (6, (0, 0, 0, 15, x6)), (5, (0, 0, 0, 15, x5)), (4, (0, 0, 0, 15, x4)), (0, (2, 60, 0, 0, 0))] [] M1
        refine hgo.2.1 227 _ [(7, (0, 0, 0, 15, 0)), (6, (0, 0, 0, 14, x6)), (5, (0, 0, 0, 15, x5)), (4, (0, 0, 0, 15, x4)), (0, (2, 60, 0, 0, 0))] _ _ (xa_subI rfl rfl (fun _ _ _ _ => by omega) (xa_subI rfl rfl (fun _ _ _ _ => by omega) (xa_subI rfl rfl (fun _ _ _ _ => by omega) (xa_subI rfl rfl (fun _ _ _ _ => by omega) (xa_subR rfl xa_sub0))))) ?_
        exact loop2 16 0 x6 x5 x4 M1 (by omega) (by omega) (by omega) (by omega) hc hfr hg85 hg86 (by omega) (by omega) hS hC (by omega)
  have loop0 : ∀ (n : Nat) (x6 x5 x4 : Int) (M1 : xa_M), 0 ≤ x6 ∧ x6 ≤ 14 → 1 ≤ x5 ∧ x5 ≤ 15 → 1 ≤ x4 ∧ x4 ≤ 15 → xm_cor M M1 → xm_fr M M1 → xm_ge M1 85 x4 → xm_ge M1 86 x5 → x4 ≤ x6 + 1 → x5 ≤ x6 + 1 → x6 ≤ M 60 32 → if_p (M1 85) x4.toNat = M 71 p * fs_u (M 81) (M 84) x6.toNat → if_p (M1 86) x5.toNat = M 70 p * fs_d (M 81) (M 84) x6.toNat → 14 - x6 < (n : Int) → Q 140 [(6, (0, 0, 0, 14, x6)), (5, (0, 0, 1, 15, x5)), (4, (0, 0, 1, 15, x4)), (0, (2, 60, 0, 0, 0))] [] M1 := by
    intro n
    induction n with
    | zero => intro x6 x5 x4 M1 b6 b5 b4 hc hfr hg85 hg86 h46 h56 h63 hp5 hp6 hms; omega
    | succ n ih0 =>
      intro x6 x5 x4 M1 b6 b5 b4 hc hfr hg85 hg86 h46 h56 h63 hp5 hp6 hms0
      have e81 := hfr 81 x6 (by decide) (by decide)
      obtain ⟨us, ds⟩ := if_us (R := M 81) (V := M 84) (x := x6) (by omega)
      refine hgo.2.2 _ _ _ _ (fun hM1 _ => ?_)
      have b32 := xm_f32 hM1
      have e32 := hfr 60 32 (by decide) (by decide)
      have e84 := hfr 84 x6 (by decide) (by decide)
      have h10 := fun h : x6 < M 60 32 => ht x6 (by omega) h
      refine hgo.1 31 [140, 217, 227, 292, 322] 140 _ _ _ ?_
      refine And.intro ?_ ?_
      · intro (c1 : (M1 60 32) ≤ x6)
        show Q 217 [(6, (0, 0, 0, 0, 0)), (5, (0, 0, 1, 15, x5)), (4, (0, 0, 1, 15, x4)), (0, (2, 60, 0, 0, 0))] [] M1
        refine hgo.2.1 217 _ [(6, (0, 0, 0, 15, 0)), (5, (0, 0, 0, 15, x5)), (4, (0, 0, 0, 15, x4)), (0, (2, 60, 0, 0, 0))] _ _ (xa_subI rfl rfl (fun _ _ _ _ => by omega) (xa_subI rfl rfl (fun _ _ _ _ => by omega) (xa_subI rfl rfl (fun _ _ _ _ => by omega) (xa_subR rfl xa_sub0)))) ?_
        exact loop1 16 0 x5 x4 M1 (by omega) (by omega) (by omega) hc hfr hg85 hg86 ⟨1, by decide, by rw [Int.mul_one, hp5, show x6 = M 60 32 by omega], by rw [Int.mul_one, hp6, show x6 = M 60 32 by omega]⟩ (fun i j i0 j0 h => by omega) (by omega)
      · intro (c1 : x6 < (M1 60 32))
        refine And.intro (show 0 ≤ x6 ∧ x6 < 14 by omega) ?_
        refine And.intro ?_ ?_
        · intro (c2 : (M1 81 x6) ≤ 0)
          refine And.intro (show 0 ≤ x6 ∧ x6 < 14 by omega) ?_
          refine And.intro ?_ ?_
          · intro (c3 : 0 ≤ (M1 81 x6))
            show Q 140 [(6, (0, 0, 1, 15, x6 + 1)), (5, (0, 0, 1, 15, x5)), (4, (0, 0, 1, 15, x4)), (0, (2, 60, 0, 0, 0))] [] M1
            refine hgo.2.1 140 _ [(6, (0, 0, 0, 14, x6 + 1)), (5, (0, 0, 1, 15, x5)), (4, (0, 0, 1, 15, x4)), (0, (2, 60, 0, 0, 0))] _ _ (xa_subI rfl rfl (fun _ _ _ _ => by omega) (xa_subI rfl rfl (fun _ _ _ _ => by omega) (xa_subI rfl rfl (fun _ _ _ _ => by omega) (xa_subR rfl xa_sub0)))) ?_
            exact ih0 (x6 + 1) x5 x4 M1 (by omega) (by omega) (by omega) hc hfr hg85 hg86 (by omega) (by omega) (by omega) (by rw [us, if_neg (by omega), Int.mul_one]; exact hp5) (by rw [ds, if_neg (by omega), Int.mul_one]; exact hp6) (by omega)
          · intro (c3 : (M1 81 x6) < 0)
            refine And.intro (show 0 ≤ x6 ∧ x6 < 14 by omega) ?_
            refine And.intro (show 0 ≤ x5 ∧ x5 < 15 by omega) ?_
            show Q 140 [(6, (0, 0, 1, 15, x6 + 1)), (5, (0, 0, 2, 16, x5 + 1)), (4, (0, 0, 1, 15, x4)), (0, (2, 60, 0, 0, 0))] [] (xa_up M1 86 x5 (M1 84 x6))
            refine hgo.2.1 140 _ [(6, (0, 0, 0, 14, x6 + 1)), (5, (0, 0, 1, 15, x5 + 1)), (4, (0, 0, 1, 15, x4)), (0, (2, 60, 0, 0, 0))] _ _ (xa_subI rfl rfl (fun _ _ _ _ => by omega) (xa_subI rfl rfl (fun _ _ _ _ => by omega) (xa_subI rfl rfl (fun _ _ _ _ => by omega) (xa_subR rfl xa_sub0)))) ?_
            exact ih0 (x6 + 1) (x5 + 1) x4 (xa_up M1 86 x5 (M1 84 x6)) (by omega) (by omega) (by omega) (xm_cor_a rfl hc) (xm_fr_u (by decide) hfr) (xm_ge_o (by decide) hg85) (xm_ge_s hg86 (by omega)) (by omega) (by omega) (by omega) (by rw [show (xa_up M1 86 x5 (M1 84 x6)) 85 = M1 85 from funext (fun j => xa_up_ne (by omega)), us, if_neg (by omega), Int.mul_one]; exact hp5) (by rw [if_ad6 (by omega), ds, if_pos (by omega), hp6, e84, Int.mul_assoc]) (by omega)
        · intro (c2 : 0 < (M1 81 x6))
          refine And.intro (show 0 ≤ x6 ∧ x6 < 14 by omega) ?_
          refine And.intro (show 0 ≤ x4 ∧ x4 < 15 by omega) ?_
          show Q 140 [(6, (0, 0, 1, 15, x6 + 1)), (4, (0, 0, 2, 16, x4 + 1)), (5, (0, 0, 1, 15, x5)), (0, (2, 60, 0, 0, 0))] [] (xa_up M1 85 x4 (M1 84 x6))
          refine hgo.2.1 140 _ [(6, (0, 0, 0, 14, x6 + 1)), (5, (0, 0, 1, 15, x5)), (4, (0, 0, 1, 15, x4 + 1)), (0, (2, 60, 0, 0, 0))] _ _ (xa_subI rfl rfl (fun _ _ _ _ => by omega) (xa_subI rfl rfl (fun _ _ _ _ => by omega) (xa_subI rfl rfl (fun _ _ _ _ => by omega) (xa_subR rfl xa_sub0)))) ?_
          exact ih0 (x6 + 1) x5 (x4 + 1) (xa_up M1 85 x4 (M1 84 x6)) (by omega) (by omega) (by omega) (xm_cor_a rfl hc) (xm_fr_u (by decide) hfr) (xm_ge_s hg85 (by omega)) (xm_ge_o (by decide) hg86) (by omega) (by omega) (by omega) (by rw [if_ad5 (by omega), us, if_pos (by omega), hp5, e84, Int.mul_assoc]) (by rw [show (xa_up M1 85 x4 (M1 84 x6)) 86 = M1 86 from funext (fun j => xa_up_ne (by omega)), ds, if_neg (by omega), Int.mul_one]; exact hp6) (by omega)
  refine hgo.1 31 [140, 217, 227, 292, 322] 97 _ _ _ ?_
  show Q 140 [(6, (0, 0, 0, 0, 0)), (5, (0, 0, 1, 1, 0 + 1)), (4, (0, 0, 1, 1, 0 + 1)), (1, (0, 0, 0, 7, p)), (0, (2, 60, 0, 0, 0))] [] (xa_up (xa_up M 85 0 (M 71 p)) 86 0 (M 70 p))
  refine hgo.2.1 140 _ [(6, (0, 0, 0, 14, 0)), (5, (0, 0, 1, 15, 0 + 1)), (4, (0, 0, 1, 15, 0 + 1)), (0, (2, 60, 0, 0, 0))] _ _ (xa_subI rfl rfl (fun _ _ _ _ => by omega) (xa_subI rfl rfl (fun _ _ _ _ => by omega) (xa_subI rfl rfl (fun _ _ _ _ => by omega) (xa_subR rfl xa_sub0)))) ?_
  exact loop0 15 0 (0 + 1) (0 + 1) (xa_up (xa_up M 85 0 (M 71 p)) 86 0 (M 70 p)) (by omega) (by omega) (by omega) (xm_cor_a rfl (xm_cor_a rfl xm_cor_r)) (xm_fr_u (by decide) (xm_fr_u (by decide) (fun _ _ _ _ => rfl))) (xm_ge_o (by decide) (xm_ge_s xm_ge_z (by omega))) (xm_ge_s (xm_ge_o (by decide) xm_ge_z) (by omega)) (by omega) (by omega) (by have := xm_f32 hM; omega) (by show 1 * (xa_up (xa_up M 85 0 (M 71 p)) 86 0 (M 70 p)) 85 0 = M 71 p * 1; rw [Int.one_mul, Int.mul_one]; exact (xa_up_ne (by omega)).trans xa_up_eq) (by show 1 * (xa_up (xa_up M 85 0 (M 71 p)) 86 0 (M 70 p)) 86 0 = M 70 p * 1; rw [Int.one_mul, Int.mul_one]; exact xa_up_eq) (by omega)
-- doubles: how near a rounded number is (isFitting's first loop)
set_option maxRecDepth 20000
theorem fx_near (n d : Nat) (hd : 0 < d) : 2 * n ≤ 2 * (FP.Core.nearest n d * d) + d ∧ 2 * (FP.Core.nearest n d * d) ≤ 2 * n + d := by
  have e := Nat.div_add_mod n d
  have l := Nat.mod_lt n hd
  have c : d * (n / d) = n / d * d := Nat.mul_comm _ _
  unfold FP.Core.nearest
  split
  · omega
  · split
    · rw [Nat.add_mul, Nat.one_mul]
      omega
    · have h2 : n / d % 2 = 0 ∨ n / d % 2 = 1 := by omega
      rcases h2 with h2 | h2
      · rw [h2, Nat.add_zero]
        omega
      · rw [h2, Nat.add_mul, Nat.one_mul]
        omega
/-- 2 to a power, moved so that it is whole -/
def fx_2 (e : Int) : Nat := 2 ^ (e + 1200).toNat
theorem fx_2a {e f : Int} (he : -1200 ≤ e) (hf : 0 ≤ f) : fx_2 (e + f) = fx_2 e * 2 ^ f.toNat := by
  unfold fx_2
  rw [show (e + f + 1200).toNat = (e + 1200).toNat + f.toNat by omega, Nat.pow_add]
theorem fx_2p (e : Int) : 0 < fx_2 e := Nat.two_pow_pos _
/-- the leading digit -/
theorem fx_lead {num den : Nat} (hn : 0 < num) (hd : 0 < den) : den * 2 ^ (FP.Core.leading num den).toNat ≤ num * 2 ^ (-(FP.Core.leading num den)).toNat ∧ num * 2 ^ (-(FP.Core.leading num den + 1)).toNat < den * 2 ^ (FP.Core.leading num den + 1).toNat := by
  have n1 := Nat.log2_self_le (show num ≠ 0 by omega)
  have n2 := Nat.lt_log2_self (n := num)
  have d1 := Nat.log2_self_le (show den ≠ 0 by omega)
  have d2 := Nat.lt_log2_self (n := den)
  unfold FP.Core.leading
  generalize num.log2 = a at n1 n2 ⊢
  generalize den.log2 = b at d1 d2 ⊢
  have up : ∀ k : Int, k = (a : Int) - (b : Int) → num * 2 ^ (-(k + 1)).toNat < den * 2 ^ (k + 1).toNat := by
    intro k hk
    have m1 : num * 2 ^ (-(k + 1)).toNat < 2 ^ (a + 1) * 2 ^ (-(k + 1)).toNat := Nat.mul_lt_mul_of_pos_right n2 (Nat.two_pow_pos _)
    have m2 : 2 ^ b * 2 ^ (k + 1).toNat ≤ den * 2 ^ (k + 1).toNat := Nat.mul_le_mul_right _ d1
    rw [← Nat.pow_add] at m1 m2
    have e : a + 1 + (-(k + 1)).toNat = b + (k + 1).toNat := by omega
    rw [e] at m1
    exact Nat.lt_of_lt_of_le m1 m2
  show den * 2 ^ (if den * 2 ^ ((a : Int) - (b : Int)).toNat ≤ num * 2 ^ (-((a : Int) - (b : Int))).toNat then (a : Int) - (b : Int) else (a : Int) - (b : Int) - 1).toNat ≤ num * 2 ^ (-(if den * 2 ^ ((a : Int) - (b : Int)).toNat ≤ num * 2 ^ (-((a : Int) - (b : Int))).toNat then (a : Int) - (b : Int) else (a : Int) - (b : Int) - 1)).toNat ∧ num * 2 ^ (-((if den * 2 ^ ((a : Int) - (b : Int)).toNat ≤ num * 2 ^ (-((a : Int) - (b : Int))).toNat then (a : Int) - (b : Int) else (a : Int) - (b : Int) - 1) + 1)).toNat < den * 2 ^ ((if den * 2 ^ ((a : Int) - (b : Int)).toNat ≤ num * 2 ^ (-((a : Int) - (b : Int))).toNat then (a : Int) - (b : Int) else (a : Int) - (b : Int) - 1) + 1).toNat
  by_cases c : den * 2 ^ ((a : Int) - (b : Int)).toNat ≤ num * 2 ^ (-((a : Int) - (b : Int))).toNat
  · rw [if_pos c]
    exact ⟨c, up _ rfl⟩
  · rw [if_neg c]
    refine ⟨?_, ?_⟩
    · have m1 : den * 2 ^ ((a : Int) - (b : Int) - 1).toNat ≤ 2 ^ (b + 1) * 2 ^ ((a : Int) - (b : Int) - 1).toNat := Nat.mul_le_mul_right _ (Nat.le_of_lt d2)
      have m2 : 2 ^ a * 2 ^ (-((a : Int) - (b : Int) - 1)).toNat ≤ num * 2 ^ (-((a : Int) - (b : Int) - 1)).toNat := Nat.mul_le_mul_right _ n1
      rw [← Nat.pow_add] at m1 m2
      have e : b + 1 + ((a : Int) - (b : Int) - 1).toNat = a + (-((a : Int) - (b : Int) - 1)).toNat := by omega
      rw [e] at m1
      exact Nat.le_trans m1 m2
    · rw [show (a : Int) - (b : Int) - 1 + 1 = (a : Int) - (b : Int) by omega]
      exact Nat.lt_of_not_le c
/-- a number c times 2 to the q is num / den times 2 to the e, but for one part in 2 to the 53 -/
def fx_A (num den : Nat) (e : Int) (c : Nat) (q : Int) : Prop := num * fx_2 e * (9007199254740992 - 1) ≤ c * fx_2 q * den * 9007199254740992 ∧ c * fx_2 q * den * 9007199254740992 ≤ num * fx_2 e * (9007199254740992 + 1)
theorem fx_rnd {num den : Nat} {e : Int} {s : Bool} (hn : 0 < num) (hd : 0 < den) (he : -1000 ≤ e ∧ e ≤ 900) (hl : -1000 ≤ FP.Core.leading num den + e ∧ FP.Core.leading num den + e ≤ 900) : ∃ c q, FP.Core.roundRatio FP.Core.b64 s num den e = .fin s c q ∧ 4503599627370496 ≤ c ∧ c < 9007199254740992 ∧ (FP.Core.leading num den + e - 52 ≤ q ∧ q ≤ FP.Core.leading num den + e - 51) ∧ fx_A num den e c q := by
  have e1 : FP.Core.Fmt.qmin FP.Core.b64 = -1074 := by decide
  have e2 : FP.Core.Fmt.tails FP.Core.b64 = 4503599627370496 := by decide
  have e3 : FP.Core.Fmt.qmax FP.Core.b64 = 971 := by decide
  have e4 : (2 : Nat) ^ FP.Core.b64.p = 9007199254740992 := by decide
  have e5 : ((FP.Core.b64.p : Nat) : Int) = 53 := by decide
  obtain ⟨l1, l2⟩ := fx_lead hn hd
  obtain ⟨L, hL⟩ : ∃ L, L = FP.Core.leading num den := ⟨_, rfl⟩
  rw [← hL] at l1 l2 hl ⊢
  have hq : FP.Core.quantum FP.Core.b64 num den e = L + e - 52 := by
    unfold FP.Core.quantum
    rw [e1, e5, ← hL]
    omega
  obtain ⟨q, hq9⟩ : ∃ q, q = L + e - 52 := ⟨_, rfl⟩
  rw [← hq9] at hq ⊢
  -- the units
  obtain ⟨u, hu⟩ : ∃ u, u = num * 2 ^ (e - q).toNat := ⟨_, rfl⟩
  obtain ⟨w, hw⟩ : ∃ w, w = den * 2 ^ (q - e).toNat := ⟨_, rfl⟩
  have w0 : 0 < w := by rw [hw]; exact Nat.mul_pos hd (Nat.two_pow_pos _)
  obtain ⟨n1, n2⟩ := fx_near u w w0
  obtain ⟨r, hr⟩ : ∃ r, r = FP.Core.nearest u w := ⟨_, rfl⟩
  rw [← hr] at n1 n2
  -- from units to what is moved
  obtain ⟨Z, hZ⟩ : ∃ Z : Nat, Z = 2 ^ (min e q + 1200).toNat := ⟨_, rfl⟩
  have z0 : 0 < Z := by rw [hZ]; exact Nat.two_pow_pos _
  have hu2 : num * fx_2 e = u * Z := by
    rw [hu, hZ, Nat.mul_assoc, ← Nat.pow_add]
    unfold fx_2
    rw [show (e + 1200).toNat = (e - q).toNat + (min e q + 1200).toNat by omega]
  have hw2 : fx_2 q * den = w * Z := by
    rw [hw, hZ, Nat.mul_assoc, ← Nat.pow_add, Nat.mul_comm]
    unfold fx_2
    rw [show (q + 1200).toNat = (q - e).toNat + (min e q + 1200).toNat by omega]
  -- between 2 to the 52 and 2 to the 53 units
  have g1 : w * 4503599627370496 ≤ u := by
    rw [hu, hw, show (4503599627370496 : Nat) = 2 ^ 52 from rfl, Nat.mul_assoc, ← Nat.pow_add]
    have t1 : den * 2 ^ L.toNat * 2 ^ (600 + (q - e).toNat + 52) ≤ num * 2 ^ (-L).toNat * 2 ^ (600 + (q - e).toNat + 52) := Nat.mul_le_mul_right _ l1
    rw [Nat.mul_assoc, Nat.mul_assoc, ← Nat.pow_add, ← Nat.pow_add] at t1
    refine Nat.le_of_mul_le_mul_right (c := 2 ^ (L.toNat + 600)) ?_ (Nat.two_pow_pos _)
    rw [Nat.mul_assoc, Nat.mul_assoc, ← Nat.pow_add, ← Nat.pow_add, show (q - e).toNat + 52 + (L.toNat + 600) = L.toNat + (600 + (q - e).toNat + 52) by omega, show (e - q).toNat + (L.toNat + 600) = (-L).toNat + (600 + (q - e).toNat + 52) by omega]
    exact t1
  have g2 : u < w * 9007199254740992 := by
    rw [hu, hw, show (9007199254740992 : Nat) = 2 ^ 53 from rfl, Nat.mul_assoc, ← Nat.pow_add]
    have t1 : num * 2 ^ (-(L + 1)).toNat * 2 ^ (600 + (q - e).toNat + 53) < den * 2 ^ (L + 1).toNat * 2 ^ (600 + (q - e).toNat + 53) := Nat.mul_lt_mul_of_pos_right l2 (Nat.two_pow_pos _)
    rw [Nat.mul_assoc, Nat.mul_assoc, ← Nat.pow_add, ← Nat.pow_add] at t1
    refine Nat.lt_of_mul_lt_mul_right (a := 2 ^ ((L + 1).toNat + 600)) ?_
    rw [Nat.mul_assoc, Nat.mul_assoc, ← Nat.pow_add, ← Nat.pow_add, show (q - e).toNat + 53 + ((L + 1).toNat + 600) = (L + 1).toNat + (600 + (q - e).toNat + 53) by omega, show (e - q).toNat + ((L + 1).toNat + 600) = (-(L + 1)).toNat + (600 + (q - e).toNat + 53) by omega]
    exact t1
  have r1 : 4503599627370496 ≤ r := by
    refine Nat.le_of_not_lt (fun h => ?_)
    have m := Nat.mul_le_mul_right w (show r + 1 ≤ 4503599627370496 from h)
    rw [Nat.add_mul, Nat.one_mul] at m
    have m2 := Nat.mul_comm w 4503599627370496
    omega
  have r2 : r ≤ 9007199254740992 := by
    refine Nat.le_of_not_lt (fun h => ?_)
    have m := Nat.mul_le_mul_right w (show 9007199254740992 + 1 ≤ r from h)
    rw [Nat.add_mul, Nat.one_mul] at m
    have m2 := Nat.mul_comm w 9007199254740992
    omega
  -- how near
  have p1 : 2 * (u * Z) ≤ 2 * (r * (w * Z)) + w * Z := by
    have m := Nat.mul_le_mul_right Z n1
    rw [Nat.add_mul, Nat.mul_assoc, Nat.mul_assoc, Nat.mul_assoc] at m
    exact m
  have p2 : 2 * (r * (w * Z)) ≤ 2 * (u * Z) + w * Z := by
    have m := Nat.mul_le_mul_right Z n2
    rw [Nat.add_mul, Nat.mul_assoc, Nat.mul_assoc, Nat.mul_assoc] at m
    exact m
  have p3 : w * Z * 4503599627370496 ≤ u * Z := by
    have m := Nat.mul_le_mul_right Z g1
    rw [Nat.mul_assoc, Nat.mul_comm 4503599627370496 Z, ← Nat.mul_assoc] at m
    exact m
  have hA : fx_A num den e r q := by
    unfold fx_A
    rw [hu2, Nat.mul_assoc r, hw2]
    generalize u * Z = U at p1 p2 p3 ⊢
    generalize w * Z = W at p1 p2 p3 ⊢
    generalize r * W = RW at p1 p2 ⊢
    omega
  have hrr : FP.Core.roundRatio FP.Core.b64 s num den e = FP.Core.settle FP.Core.b64 s r q := by
    unfold FP.Core.roundRatio
    rw [if_neg (by omega), hq]
    unfold FP.Core.roundAt FP.Core.unitsNum FP.Core.unitsDen
    rw [← hu, ← hw, ← hr]
  rw [hrr]
  unfold FP.Core.settle FP.Core.bound
  rw [e2, e3, e4]
  by_cases c : r < 9007199254740992
  · rw [if_pos c, if_pos (by omega)]
    exact ⟨r, q, rfl, r1, c, by omega, hA⟩
  · rw [if_neg c, if_pos (by omega)]
    refine ⟨4503599627370496, q + 1, rfl, by omega, by omega, by omega, ?_⟩
    have er : r = 9007199254740992 := by omega
    unfold fx_A at hA ⊢
    rw [er] at hA
    rw [fx_2a (e := q) (f := 1) (by omega) (by decide)]
    have e9 : 4503599627370496 * (fx_2 q * 2 ^ (1 : Int).toNat) = 9007199254740992 * fx_2 q := by
      show 4503599627370496 * (fx_2 q * 2) = _
      omega
    rw [e9]
    exact hA
-- doubles: the chain of products and quotients
set_option maxRecDepth 20000
/-- c times 2 to the q is N / D, but for k steps' errors -/
def fx_B (N D k c : Nat) (q : Int) : Prop := N * fx_2 0 * 9007199254740991 ^ k ≤ c * fx_2 q * D * 9007199254740992 ^ k ∧ c * fx_2 q * D * 9007199254740992 ^ k ≤ N * fx_2 0 * 9007199254740993 ^ k
theorem fx_add {q r : Int} (hq : -1200 ≤ q) (hr : -1200 ≤ r) (hs : -1200 ≤ q + r) : fx_2 (q + r) * fx_2 0 = fx_2 q * fx_2 r := by
  unfold fx_2
  rw [← Nat.pow_add, ← Nat.pow_add, show (q + r + 1200).toNat + (0 + 1200 : Int).toNat = (q + 1200).toNat + (r + 1200).toNat by omega]
theorem fx_sub {q r : Int} (hq : -1200 ≤ q) (hr : -1200 ≤ r) (hs : -1200 ≤ q - r) : fx_2 (q - r) * fx_2 r = fx_2 q * fx_2 0 := by
  have h := fx_add (q := q - r) (r := r) hs hr (by omega)
  rw [show q - r + r = q by omega] at h
  exact h.symm
theorem fx_int {n c : Nat} {q : Int} (h : fx_A n 1 0 c q) : fx_B n 1 1 c q := by
  unfold fx_A at h
  unfold fx_B
  rw [Nat.pow_one, Nat.pow_one, Nat.pow_one]
  exact h
theorem fx_mul {N D k c n d c' : Nat} {q r q' : Int} (hq : -1200 ≤ q) (hr : -1200 ≤ r) (hs : -1200 ≤ q + r) (h1 : fx_B N D k c q) (h2 : fx_B n 1 1 d r) (h3 : fx_A (c * d) 1 (q + r) c' q') : fx_B (N * n) D (k + 2) c' q' := by
  have e := fx_add hq hr hs
  have z := fx_2p 0
  unfold fx_B at h1 h2 ⊢
  unfold fx_A at h3
  obtain ⟨a1, a2⟩ := h1
  obtain ⟨b1, b2⟩ := h2
  obtain ⟨f1, f2⟩ := h3
  rw [Nat.pow_one, Nat.pow_one, Nat.mul_one] at b1
  rw [Nat.pow_one, Nat.pow_one, Nat.mul_one] at b2
  rw [Nat.mul_one, show 9007199254740992 - 1 = 9007199254740991 from rfl] at f1
  rw [Nat.mul_one, show 9007199254740992 + 1 = 9007199254740993 from rfl] at f2
  generalize fx_2 0 = Z at e z a1 a2 b1 b2 ⊢
  generalize fx_2 q = Q at e a1 a2
  generalize fx_2 r = R at e b1 b2
  generalize fx_2 (q + r) = G at e f1 f2
  generalize fx_2 q' = Q' at f1 f2 ⊢
  -- the exact product, moved
  have x1 : c * d * G * Z = c * Q * (d * R) := by
    rw [Nat.mul_assoc (c * d), e]
    simp only [Nat.mul_assoc, Nat.mul_left_comm]
  refine ⟨?_, ?_⟩
  · refine Nat.le_of_mul_le_mul_right (c := Z) ?_ z
    have m1 := Nat.mul_le_mul a1 b1
    have m2 := Nat.mul_le_mul_right 9007199254740991 m1
    have m3 := Nat.mul_le_mul_right (D * 9007199254740992 ^ k * 9007199254740992 * Z) f1
    have y1 : N * n * Z * 9007199254740991 ^ (k + 2) * Z = N * Z * 9007199254740991 ^ k * (n * Z * 9007199254740991) * 9007199254740991 := by
      rw [Nat.pow_succ, Nat.pow_succ]
      simp only [Nat.mul_assoc, Nat.mul_left_comm, Nat.mul_comm]
    have y2 : c * Q * D * 9007199254740992 ^ k * (d * R * 9007199254740992) * 9007199254740991 = c * d * G * 9007199254740991 * (D * 9007199254740992 ^ k * 9007199254740992 * Z) := by
      have y3 : c * d * G * 9007199254740991 * (D * 9007199254740992 ^ k * 9007199254740992 * Z) = c * d * G * Z * (9007199254740991 * (D * 9007199254740992 ^ k * 9007199254740992)) := by
        simp only [Nat.mul_assoc, Nat.mul_left_comm, Nat.mul_comm]
      rw [y3, x1]
      simp only [Nat.mul_assoc, Nat.mul_left_comm, Nat.mul_comm]
    have y4 : c' * Q' * D * 9007199254740992 ^ (k + 2) * Z = c' * Q' * 9007199254740992 * (D * 9007199254740992 ^ k * 9007199254740992 * Z) := by
      rw [Nat.pow_succ, Nat.pow_succ]
      simp only [Nat.mul_assoc, Nat.mul_left_comm, Nat.mul_comm]
    rw [y1, y4]
    exact Nat.le_trans m2 (by rw [y2]; exact m3)
  · refine Nat.le_of_mul_le_mul_right (c := Z) ?_ z
    have m1 := Nat.mul_le_mul a2 b2
    have m2 := Nat.mul_le_mul_right 9007199254740993 m1
    have m3 := Nat.mul_le_mul_right (D * 9007199254740992 ^ k * 9007199254740992 * Z) f2
    have y1 : N * n * Z * 9007199254740993 ^ (k + 2) * Z = N * Z * 9007199254740993 ^ k * (n * Z * 9007199254740993) * 9007199254740993 := by
      rw [Nat.pow_succ, Nat.pow_succ]
      simp only [Nat.mul_assoc, Nat.mul_left_comm, Nat.mul_comm]
    have y2 : c * Q * D * 9007199254740992 ^ k * (d * R * 9007199254740992) * 9007199254740993 = c * d * G * 9007199254740993 * (D * 9007199254740992 ^ k * 9007199254740992 * Z) := by
      have y3 : c * d * G * 9007199254740993 * (D * 9007199254740992 ^ k * 9007199254740992 * Z) = c * d * G * Z * (9007199254740993 * (D * 9007199254740992 ^ k * 9007199254740992)) := by
        simp only [Nat.mul_assoc, Nat.mul_left_comm, Nat.mul_comm]
      rw [y3, x1]
      simp only [Nat.mul_assoc, Nat.mul_left_comm, Nat.mul_comm]
    have y4 : c' * Q' * D * 9007199254740992 ^ (k + 2) * Z = c' * Q' * 9007199254740992 * (D * 9007199254740992 ^ k * 9007199254740992 * Z) := by
      rw [Nat.pow_succ, Nat.pow_succ]
      simp only [Nat.mul_assoc, Nat.mul_left_comm, Nat.mul_comm]
    rw [y1, y4]
    exact Nat.le_trans m3 (by rw [← y2]; exact m2)
theorem fx_div {N D k c n d c' : Nat} {q r q' : Int} (hq : -1200 ≤ q) (hr : -1200 ≤ r) (hs : -1200 ≤ q - r) (h1 : fx_B N D k c q) (h2 : fx_B n 1 1 d r) (h3 : fx_A c d (q - r) c' q') : fx_B N (D * n) (k + 3) c' q' := by
  have e := fx_sub hq hr hs
  have z := fx_2p 0
  unfold fx_B at h1 h2 ⊢
  unfold fx_A at h3
  obtain ⟨a1, a2⟩ := h1
  obtain ⟨b1, b2⟩ := h2
  obtain ⟨f1, f2⟩ := h3
  rw [Nat.pow_one, Nat.pow_one, Nat.mul_one] at b1
  rw [Nat.pow_one, Nat.pow_one, Nat.mul_one] at b2
  rw [show 9007199254740992 - 1 = 9007199254740991 from rfl] at f1
  rw [show 9007199254740992 + 1 = 9007199254740993 from rfl] at f2
  generalize fx_2 0 = Z at e z a1 a2 b1 b2 ⊢
  generalize fx_2 q = Q at e a1 a2
  generalize fx_2 r = R at e b1 b2
  generalize fx_2 (q - r) = G at e f1 f2
  generalize fx_2 q' = Q' at f1 f2 ⊢
  generalize hA : (9007199254740991 : Nat) = A at a1 b1 f1 ⊢
  generalize hB : (9007199254740992 : Nat) = B at a1 a2 b1 b2 f1 f2 ⊢
  generalize hC : (9007199254740993 : Nat) = C at a2 b2 f2 ⊢
  have k1 : A * A * C ≤ B * B * B := by rw [← hA, ← hB, ← hC]; decide
  have k2 : B * B * B ≤ C * C * A := by rw [← hA, ← hB, ← hC]; decide
  have zA : 0 < A := by rw [← hA]; decide
  have zC : 0 < C := by rw [← hC]; decide
  refine ⟨?_, ?_⟩
  · refine Nat.le_of_mul_le_mul_right (c := Z * C) ?_ (Nat.mul_pos z zC)
    have m1 := Nat.mul_le_mul_right (c' * Q' * D * (B ^ k * B * B * B)) b2
    have m2 := Nat.mul_le_mul_right (D * R * (B ^ k * B * B * B)) f1
    have m3 := Nat.mul_le_mul_right (Z * A * (B * B * B)) a1
    have m4 := Nat.mul_le_mul_left (N * Z * A ^ k * Z * A) k1
    have y1 : N * Z * A ^ (k + 3) * (Z * C) = N * Z * A ^ k * Z * A * (A * A * C) := by
      rw [Nat.pow_succ, Nat.pow_succ, Nat.pow_succ]
      simp only [Nat.mul_assoc, Nat.mul_left_comm, Nat.mul_comm]
    have y2 : N * Z * A ^ k * Z * A * (B * B * B) = N * Z * A ^ k * (Z * A * (B * B * B)) := by
      simp only [Nat.mul_assoc]
    have y3 : c * Q * D * B ^ k * (Z * A * (B * B * B)) = c * G * A * (D * R * (B ^ k * B * B * B)) := by
      have t : c * G * A * (D * R * (B ^ k * B * B * B)) = c * (G * R) * (A * (D * (B ^ k * B * B * B))) := by
        simp only [Nat.mul_assoc, Nat.mul_left_comm, Nat.mul_comm]
      rw [t, e]
      simp only [Nat.mul_assoc, Nat.mul_left_comm, Nat.mul_comm]
    have y4 : c' * Q' * d * B * (D * R * (B ^ k * B * B * B)) = d * R * B * (c' * Q' * D * (B ^ k * B * B * B)) := by
      simp only [Nat.mul_assoc, Nat.mul_left_comm, Nat.mul_comm]
    have y5 : c' * Q' * (D * n) * B ^ (k + 3) * (Z * C) = n * Z * C * (c' * Q' * D * (B ^ k * B * B * B)) := by
      rw [Nat.pow_succ, Nat.pow_succ, Nat.pow_succ]
      simp only [Nat.mul_assoc, Nat.mul_left_comm, Nat.mul_comm]
    rw [y1, y5]
    refine Nat.le_trans m4 ?_
    rw [y2]
    refine Nat.le_trans m3 ?_
    rw [y3]
    refine Nat.le_trans m2 ?_
    rw [y4]
    exact m1
  · refine Nat.le_of_mul_le_mul_right (c := Z * A) ?_ (Nat.mul_pos z zA)
    have m1 := Nat.mul_le_mul_right (c' * Q' * D * (B ^ k * B * B * B)) b1
    have m2 := Nat.mul_le_mul_right (D * R * (B ^ k * B * B * B)) f2
    have m3 := Nat.mul_le_mul_right (Z * C * (B * B * B)) a2
    have m4 := Nat.mul_le_mul_left (N * Z * C ^ k * Z * C) k2
    have y1 : N * Z * C ^ (k + 3) * (Z * A) = N * Z * C ^ k * Z * C * (C * C * A) := by
      rw [Nat.pow_succ, Nat.pow_succ, Nat.pow_succ]
      simp only [Nat.mul_assoc, Nat.mul_left_comm, Nat.mul_comm]
    have y2 : N * Z * C ^ k * Z * C * (B * B * B) = N * Z * C ^ k * (Z * C * (B * B * B)) := by
      simp only [Nat.mul_assoc]
    have y3 : c * Q * D * B ^ k * (Z * C * (B * B * B)) = c * G * C * (D * R * (B ^ k * B * B * B)) := by
      have t : c * G * C * (D * R * (B ^ k * B * B * B)) = c * (G * R) * (C * (D * (B ^ k * B * B * B))) := by
        simp only [Nat.mul_assoc, Nat.mul_left_comm, Nat.mul_comm]
      rw [t, e]
      simp only [Nat.mul_assoc, Nat.mul_left_comm, Nat.mul_comm]
    have y4 : c' * Q' * d * B * (D * R * (B ^ k * B * B * B)) = d * R * B * (c' * Q' * D * (B ^ k * B * B * B)) := by
      simp only [Nat.mul_assoc, Nat.mul_left_comm, Nat.mul_comm]
    have y5 : c' * Q' * (D * n) * B ^ (k + 3) * (Z * A) = n * Z * A * (c' * Q' * D * (B ^ k * B * B * B)) := by
      rw [Nat.pow_succ, Nat.pow_succ, Nat.pow_succ]
      simp only [Nat.mul_assoc, Nat.mul_left_comm, Nat.mul_comm]
    rw [y1, y5]
    refine Nat.le_trans m1 (Nat.le_trans ?_ m4)
    rw [y2, ← y4]
    refine Nat.le_trans m2 ?_
    rw [← y3]
    exact m3
theorem fx_Bm {N D k k' c : Nat} {q : Int} (h : fx_B N D k c q) (hk : k ≤ k') : fx_B N D k' c q := by
  obtain ⟨d, rfl⟩ := Nat.exists_eq_add_of_le hk
  obtain ⟨a, b⟩ := h
  unfold fx_B
  rw [Nat.pow_add, Nat.pow_add, Nat.pow_add, ← Nat.mul_assoc, ← Nat.mul_assoc, ← Nat.mul_assoc]
  exact ⟨Nat.mul_le_mul a (Nat.pow_le_pow_left (by decide) d), Nat.mul_le_mul b (Nat.pow_le_pow_left (by decide) d)⟩
-- what an encoding is decoded to
def fd_v (m : UInt64) (c : Nat) (q : Int) : Prop := FP.Core.decode FP.Core.b64 m.toNat = .fin false c q
theorem fd_out {c : Nat} {q : Int} (h1 : 4503599627370496 ≤ c) (h2 : c < 9007199254740992) (h3 : -1074 ≤ q) (h4 : q ≤ 971) : fd_v (UInt64.ofNat (FP.Core.encode FP.Core.b64 (.fin false c q))) c q := by
  have e1 : FP.Core.Fmt.qmin FP.Core.b64 = -1074 := by decide
  have e2 : FP.Core.Fmt.tails FP.Core.b64 = 4503599627370496 := by decide
  have hk := fd_enc (d := .fin false c q) ⟨h2, h3, h4⟩
  have ht : (UInt64.ofNat (FP.Core.encode FP.Core.b64 (.fin false c q))).toNat = FP.Core.encode FP.Core.b64 (.fin false c q) := by
    rw [UInt64.toNat_ofNat']
    omega
  unfold fd_v
  rw [ht]
  have hn : FP.Core.encode FP.Core.b64 (.fin false c q) = ((q + 1074).toNat + 1) * 4503599627370496 + (c - 4503599627370496) := by
    unfold FP.Core.encode
    simp only [e1, e2]
    rw [if_neg (by omega), fd_asm]
    show (0 * 2048 + ((q - -1074).toNat + 1)) * 4503599627370496 + (c - 4503599627370496) = _
    rw [show q - -1074 = q + 1074 by omega]
    omega
  rw [hn]
  obtain ⟨E, hE⟩ : ∃ E, E = (q + 1074).toNat + 1 := ⟨_, rfl⟩
  obtain ⟨t, ht⟩ : ∃ t, t = c - 4503599627370496 := ⟨_, rfl⟩
  rw [← hE, ← ht]
  have g1 : (E * 4503599627370496 + t) / 4503599627370496 = E := by omega
  have g2 : (E * 4503599627370496 + t) % 4503599627370496 = t := by omega
  have fE : FP.Core.fieldE FP.Core.b64 (E * 4503599627370496 + t) = E := by
    show (E * 4503599627370496 + t) / 4503599627370496 % 2048 = E
    rw [g1]
    omega
  have fT : FP.Core.fieldT FP.Core.b64 (E * 4503599627370496 + t) = t := g2
  have fS : FP.Core.fieldS FP.Core.b64 (E * 4503599627370496 + t) = false := by
    show ((E * 4503599627370496 + t) / 4503599627370496 / 2048 % 2 == 1) = false
    rw [g1, show E / 2048 = 0 by omega]
    rfl
  unfold FP.Core.decode
  rw [fE, fT, fS, e1, e2, if_neg (show ¬ E = FP.Core.b64.exps - 1 from fun h => by
    have h : E = 2047 := h
    omega), if_neg (by omega)]
  rw [show 4503599627370496 + t = c by omega, show (-1074 : Int) + ((E : Int) - 1) = q by omega]
-- doubles: what isFitting's near is
set_option maxRecDepth 20000
theorem fx_lo {num den a b : Nat} (hn : 0 < num) (hd : 0 < den) (h : den * 2 ^ a ≤ num * 2 ^ b) : (a : Int) - (b : Int) ≤ FP.Core.leading num den := by
  obtain ⟨-, l2⟩ := fx_lead hn hd
  generalize FP.Core.leading num den = L at l2 ⊢
  refine Int.le_of_not_gt (fun c => ?_)
  have m1 : num * 2 ^ (-(L + 1)).toNat * 2 ^ b < den * 2 ^ (L + 1).toNat * 2 ^ b := Nat.mul_lt_mul_of_pos_right l2 (Nat.two_pow_pos _)
  have m2 : den * 2 ^ a * 2 ^ (-(L + 1)).toNat ≤ num * 2 ^ b * 2 ^ (-(L + 1)).toNat := Nat.mul_le_mul_right _ h
  have m3 : den * 2 ^ ((L + 1).toNat + b) ≤ den * 2 ^ (a + (-(L + 1)).toNat) := Nat.mul_le_mul_left _ (Nat.pow_le_pow_right (by decide) (by omega))
  rw [Nat.mul_assoc, Nat.mul_assoc, ← Nat.pow_add, ← Nat.pow_add] at m1 m2
  rw [Nat.add_comm b (-(L + 1)).toNat] at m2
  omega
theorem fx_hi {num den a b : Nat} (hn : 0 < num) (hd : 0 < den) (h : num * 2 ^ b < den * 2 ^ a) : FP.Core.leading num den < (a : Int) - (b : Int) := by
  obtain ⟨l1, -⟩ := fx_lead hn hd
  generalize FP.Core.leading num den = L at l1 ⊢
  refine Int.lt_of_not_ge (fun c => ?_)
  have m1 : den * 2 ^ L.toNat * 2 ^ b ≤ num * 2 ^ (-L).toNat * 2 ^ b := Nat.mul_le_mul_right _ l1
  have m2 : num * 2 ^ b * 2 ^ (-L).toNat < den * 2 ^ a * 2 ^ (-L).toNat := Nat.mul_lt_mul_of_pos_right h (Nat.two_pow_pos _)
  have m3 : den * 2 ^ (a + (-L).toNat) ≤ den * 2 ^ (L.toNat + b) := Nat.mul_le_mul_left _ (Nat.pow_le_pow_right (by decide) (by omega))
  rw [Nat.mul_assoc, Nat.mul_assoc, ← Nat.pow_add, ← Nat.pow_add] at m1 m2
  rw [Nat.add_comm b (-L).toNat] at m2
  omega
/-- x is N / D but for k errors; its exponent is near -52 -/
def fd_N (x : UInt64) (N D k : Nat) (j : Int) : Prop := ∃ (c : Nat) (q : Int), fd_v x c q ∧ (4503599627370496 ≤ c ∧ c < 9007199254740992) ∧ (-52 - j ≤ q ∧ q ≤ -52 + j) ∧ fx_B N D k c q
theorem fd_Nm {x : UInt64} {N D k k' : Nat} {j j' : Int} (h : fd_N x N D k j) (hk : k ≤ k') (hj : j ≤ j') : fd_N x N D k' j' := by
  obtain ⟨c, q, h1, h2, h3, h4⟩ := h
  exact ⟨c, q, h1, h2, by omega, fx_Bm h4 hk⟩
theorem fd_Np {x : UInt64} {N D k : Nat} {j : Int} (h : fd_N x N D k j) : fd_pos x := by
  obtain ⟨c, q, h1, h2, -⟩ := h
  exact ⟨false, c, q, h1, by omega⟩
theorem fd_i2dN {z : Int32} {n : Nat} (hz : z.toInt = (n : Int)) (h1 : 1 ≤ n) (h2 : n ≤ 2000) : fd_N (FP.i2d z) n 1 1 12 := by
  have a1 := fx_lo (num := n) (den := 1) (a := 0) (b := 0) (by omega) (by decide) (by omega)
  have a2 := fx_hi (num := n) (den := 1) (a := 11) (b := 0) (by omega) (by decide) (by omega)
  obtain ⟨c, q, e, c1, c2, c3, hA⟩ := fx_rnd (num := n) (den := 1) (e := 0) (s := false) (by omega) (by decide) (by omega) (by omega)
  have hr : FP.Core.fromInt FP.Core.b64 z.toInt = FP.Core.encode FP.Core.b64 (.fin false c q) := by
    rw [hz, ← e]
    show FP.Core.encode FP.Core.b64 (FP.Core.roundRatio FP.Core.b64 (decide ((n : Int) < 0)) ((n : Int)).natAbs 1 0) = _
    rw [decide_eq_false (by omega), Int.natAbs_natCast]
  refine ⟨c, q, ?_, ⟨c1, c2⟩, by omega, fx_int hA⟩
  show fd_v (UInt64.ofNat (FP.Core.fromInt FP.Core.b64 z.toInt)) c q
  rw [hr]
  exact fd_out c1 c2 (by omega) (by omega)
theorem fd_mulN {x y : UInt64} {N D k n : Nat} {j : Int} (hx : fd_N x N D k j) (hy : fd_N y n 1 1 12) (hj : 0 ≤ j ∧ j ≤ 800) : fd_N (FP.dmul x y) (N * n) D (k + 2) (j + 14) := by
  obtain ⟨c, q, x1, x2, x3, x4⟩ := hx
  obtain ⟨d, r, y1, y2, y3, y4⟩ := hy
  have p1 : 4503599627370496 * 4503599627370496 ≤ c * d := Nat.mul_le_mul x2.1 y2.1
  have p2 : c * d < 9007199254740992 * 9007199254740992 := Nat.mul_lt_mul_of_lt_of_lt x2.2 y2.2
  have a1 := fx_lo (num := c * d) (den := 1) (a := 104) (b := 0) (by omega) (by decide) (by omega)
  have a2 := fx_hi (num := c * d) (den := 1) (a := 106) (b := 0) (by omega) (by decide) (by omega)
  obtain ⟨c', q', e, c1, c2, c3, hA⟩ := fx_rnd (num := c * d) (den := 1) (e := q + r) (s := false) (by omega) (by decide) (by omega) (by omega)
  have hr : FP.Core.mul FP.Core.b64 x.toNat y.toNat = FP.Core.encode FP.Core.b64 (.fin false c' q') := by
    unfold FP.Core.mul
    have x1 : FP.Core.decode FP.Core.b64 x.toNat = .fin false c q := x1
    have y1 : FP.Core.decode FP.Core.b64 y.toNat = .fin false d r := y1
    rw [x1, y1, ← e]
    rfl
  refine ⟨c', q', ?_, ⟨c1, c2⟩, by omega, fx_mul (by omega) (by omega) (by omega) x4 y4 hA⟩
  show fd_v (UInt64.ofNat (FP.Core.mul FP.Core.b64 x.toNat y.toNat)) c' q'
  rw [hr]
  exact fd_out c1 c2 (by omega) (by omega)
theorem fd_divN {x y : UInt64} {N D k n : Nat} {j : Int} (hx : fd_N x N D k j) (hy : fd_N y n 1 1 12) (hj : 0 ≤ j ∧ j ≤ 800) : fd_N (FP.ddiv x y) N (D * n) (k + 3) (j + 14) := by
  obtain ⟨c, q, x1, x2, x3, x4⟩ := hx
  obtain ⟨d, r, y1, y2, y3, y4⟩ := hy
  have a1 := fx_lo (num := c) (den := d) (a := 0) (b := 1) (by omega) (by omega) (by omega)
  have a2 := fx_hi (num := c) (den := d) (a := 1) (b := 0) (by omega) (by omega) (by omega)
  obtain ⟨c', q', e, c1, c2, c3, hA⟩ := fx_rnd (num := c) (den := d) (e := q - r) (s := false) (by omega) (by omega) (by omega) (by omega)
  have hr : FP.Core.div FP.Core.b64 x.toNat y.toNat = FP.Core.encode FP.Core.b64 (.fin false c' q') := by
    unfold FP.Core.div
    have x1 : FP.Core.decode FP.Core.b64 x.toNat = .fin false c q := x1
    have y1 : FP.Core.decode FP.Core.b64 y.toNat = .fin false d r := y1
    rw [x1, y1, ← e]
    show FP.Core.encode FP.Core.b64 (if d = 0 then (if c = 0 then .nan else .inf (false != false)) else FP.Core.roundRatio FP.Core.b64 (false != false) c d (q - r)) = _
    rw [if_neg (by omega)]
    rfl
  refine ⟨c', q', ?_, ⟨c1, c2⟩, by omega, fx_div (by omega) (by omega) (by omega) x4 y4 hA⟩
  show fd_v (UInt64.ofNat (FP.Core.div FP.Core.b64 x.toNat y.toNat)) c' q'
  rw [hr]
  exact fd_out c1 c2 (by omega) (by omega)
theorem fd_cm {x y : UInt64} {c d : Nat} {q r : Int} (hx : fd_v x c q) (hy : fd_v y d r) (hq : -1200 ≤ q) (hr : -1200 ≤ r) (op : ClassFile.CmpOp) : (d * fx_2 r ≤ c * fx_2 q → 0 ≤ (Op.cmpValue (FP.dcmp x y) op).toInt) ∧ (c * fx_2 q ≤ d * fx_2 r → (Op.cmpValue (FP.dcmp x y) op).toInt ≤ 0) := by
  have hx : FP.Core.decode FP.Core.b64 x.toNat = .fin false c q := hx
  have hy : FP.Core.decode FP.Core.b64 y.toNat = .fin false d r := hy
  have e : FP.dcmp x y = some (compare ((c * 2 ^ (q - min q r).toNat : Nat) : Int) ((d * 2 ^ (r - min q r).toNat : Nat) : Int)) := by
    show FP.Core.order (FP.Core.decode FP.Core.b64 x.toNat) (FP.Core.decode FP.Core.b64 y.toNat) = _
    rw [hx, hy]
    rfl
  have z := Nat.two_pow_pos (min q r + 1200).toNat
  have u1 : c * fx_2 q = c * 2 ^ (q - min q r).toNat * 2 ^ (min q r + 1200).toNat := by
    unfold fx_2
    rw [Nat.mul_assoc, ← Nat.pow_add, show (q + 1200).toNat = (q - min q r).toNat + (min q r + 1200).toNat by omega]
  have u2 : d * fx_2 r = d * 2 ^ (r - min q r).toNat * 2 ^ (min q r + 1200).toNat := by
    unfold fx_2
    rw [Nat.mul_assoc, ← Nat.pow_add, show (r + 1200).toNat = (r - min q r).toNat + (min q r + 1200).toNat by omega]
  rw [u1, u2, e]
  generalize c * 2 ^ (q - min q r).toNat = a
  generalize d * 2 ^ (r - min q r).toNat = b
  refine ⟨fun h => ?_, fun h => ?_⟩
  · have h := Nat.le_of_mul_le_mul_right h z
    cases o : compare (a : Int) (b : Int) with
    | lt =>
      have := Int.compare_eq_lt.mp o
      omega
    | eq => exact (show (0 : Int) ≤ ((0 : Int32)).toInt by decide)
    | gt => exact (show (0 : Int) ≤ ((1 : Int32)).toInt by decide)
  · have h := Nat.le_of_mul_le_mul_right h z
    cases o : compare (a : Int) (b : Int) with
    | lt => exact (show ((-1 : Int32)).toInt ≤ 0 by decide)
    | eq => exact (show ((0 : Int32)).toInt ≤ 0 by decide)
    | gt =>
      have := Int.compare_eq_gt.mp o
      omega
theorem fd_k1 : fd_v (UInt64.ofNat (4607182409792818153 : Int).toNat) 9007190247541737 (-53) := by
  unfold fd_v
  decide +kernel
theorem fd_k2 : fd_v (UInt64.ofNat (4607182423303617035 : Int).toNat) 4503604130970123 (-52) := by
  unfold fd_v
  decide +kernel
def fd_PA : Nat := 9007199254740991 ^ 50
def fd_PB : Nat := 9007199254740992 ^ 50
def fd_PC : Nat := 9007199254740993 ^ 50
theorem fd_n1 : 9007190247541737 * fx_2 (-53) * fd_PB ≤ fx_2 0 * fd_PA := by decide +kernel
theorem fd_n2 : fx_2 0 * fd_PC ≤ 4503604130970123 * fx_2 (-52) * fd_PB := by decide +kernel
theorem fd_nB : 0 < fd_PB := by decide +kernel
theorem fd_one0 {N U X Z A B C a b : Nat} (hN : 0 < N) (hB : 0 < B) (b1 : N * Z * A ≤ X * N * B) (b2 : X * N * B ≤ N * Z * C) (n1 : a * B ≤ Z * A) (n2 : Z * C ≤ b * B) : a ≤ X ∧ X ≤ b := by
  have s1 : Z * A ≤ X * B := by
    refine Nat.le_of_mul_le_mul_right (c := N) ?_ hN
    rw [show X * B * N = X * N * B by rw [Nat.mul_assoc, Nat.mul_comm B N, ← Nat.mul_assoc], show Z * A * N = N * Z * A by rw [Nat.mul_comm _ N, ← Nat.mul_assoc]]
    exact b1
  have s2 : X * B ≤ Z * C := by
    refine Nat.le_of_mul_le_mul_right (c := N) ?_ hN
    rw [show X * B * N = X * N * B by rw [Nat.mul_assoc, Nat.mul_comm B N, ← Nat.mul_assoc], show Z * C * N = N * Z * C by rw [Nat.mul_comm _ N, ← Nat.mul_assoc]]
    exact b2
  exact ⟨Nat.le_of_mul_le_mul_right (Nat.le_trans n1 s1) hB, Nat.le_of_mul_le_mul_right (Nat.le_trans s2 n2) hB⟩
/-- where both products are the same near lies within its bounds -/
theorem fd_one {x : UInt64} {N k : Nat} {j : Int} (hN : 0 < N) (hx : fd_N x N N k j) (hk : k ≤ 50) (hj : j ≤ 1000) (o1 o2 : ClassFile.CmpOp) : 0 ≤ (Op.cmpValue (FP.dcmp x (UInt64.ofNat (4607182409792818153 : Int).toNat)) o1).toInt ∧ (Op.cmpValue (FP.dcmp x (UInt64.ofNat (4607182423303617035 : Int).toNat)) o2).toInt ≤ 0 := by
  obtain ⟨c, q, x1, x2, x3, x4⟩ := fd_Nm hx hk (Int.le_refl j)
  have b1 : N * fx_2 0 * fd_PA ≤ c * fx_2 q * N * fd_PB := x4.1
  have b2 : c * fx_2 q * N * fd_PB ≤ N * fx_2 0 * fd_PC := x4.2
  obtain ⟨r1, r2⟩ := fd_one0 (U := 0) hN fd_nB b1 b2 fd_n1 fd_n2
  exact ⟨(fd_cm x1 fd_k1 (by omega) (by decide) o1).1 r1, (fd_cm x1 fd_k2 (by omega) (by decide) o2).2 r2⟩
-- isFitting of the reference, told
set_option maxRecDepth 20000
section XD1
variable {CALL : Nat → List Value → g_H → Nat → Nat → (Option Value → g_H → Prop) → Prop} {cc : ByteArray} {o nL : Nat} {ini : Bool} {bc bs : Nat} {P : g_S → Prop}
variable {I : xa_I} {A : Nat → Nat} {h0 : g_H}
/-- what else may be used of a state's predicate where there are doubles -/
def xd_goF (o nL : Nat) (full : List s_I) (Q : xa_Q) : Prop :=
  (∀ (pc kd a b : Nat) (v : Int) (t : List s_I) (L : xa_L) (rest : List xa_V) (M : xa_M) (p : Nat) (lo hi n : Int), s_jump full pc = some ((pc, 1, 60, kd, a, b, v, .i2d) :: t) → (∀ z : Int32, z.toInt = n → Q (pc + 1) L (xd_v (FP.i2d z) :: rest) M) → Q pc L ((0, p, lo, hi, n) :: rest) M) ∧
  (∀ (pc kd a b : Nat) (v : Int) (t : List s_I) (L : xa_L) (rest : List xa_V) (M : xa_M) (x y : UInt64), s_jump full pc = some ((pc, 1, 60, kd, a, b, v, .ddiv) :: t) → vf_n64 x → fd_pos y → Q (pc + 1) L (xd_v (FP.ddiv x y) :: rest) M → Q pc L (xd_v y :: xd_v x :: rest) M) ∧
  (∀ (pc kd a b : Nat) (v : Int) (t : List s_I) (L : xa_L) (rest : List xa_V) (M : xa_M) (x y : UInt64), s_jump full pc = some ((pc, 1, 60, kd, a, b, v, .dmul) :: t) → vf_n64 x → fd_pos y → Q (pc + 1) L (xd_v (FP.dmul x y) :: rest) M → Q pc L (xd_v y :: xd_v x :: rest) M) ∧
  (∀ (pc kd a b : Nat) (v : Int) (t : List s_I) (L : xa_L) (rest : List xa_V) (M : xa_M) (x y : UInt64) (op : ClassFile.CmpOp), s_jump full pc = some ((pc, 1, 60, kd, a, b, v, .dcmp op) :: t) → (∀ n : Int, n = (Op.cmpValue (FP.dcmp x y) op).toInt → Q (pc + 1) L ((0, 0, -2147483648, 2147483647, n) :: rest) M) → Q pc L (xd_v y :: xd_v x :: rest) M) ∧
  (∀ (pc kd a b : Nat) (v : Int) (t : List s_I) (L : xa_L) (rest : List xa_V) (M : xa_M) (x : UInt64) (k : Fin 4), s_jump full pc = some ((pc, 1, 60, kd, a, b, v, .dstore_n k) :: t) → k + 1 < nL → Q (pc + 1) ((k, xd_v x) :: xa_fil2 k L) rest M → Q pc L (xd_v x :: rest) M) ∧
  (∀ (pc kd a b : Nat) (v : Int) (t : List s_I) (L : xa_L) (rest : List xa_V) (M : xa_M) (x : UInt64) (k : Fin 4), s_jump full pc = some ((pc, 1, 60, kd, a, b, v, .dload_n k) :: t) → xa_find L k = some (xd_v x) → Q (pc + 1) L (xd_v x :: rest) M → Q pc L rest M) ∧
  (∀ (pc kd a b : Nat) (v : Int) (t : List s_I) (L : xa_L) (rest : List xa_V) (M : xa_M) (i a0 b0 : Nat) (w : Int) (ps : List Nat), s_jump full pc = some ((pc, 3, 60, kd, a, b, v, .ldc2_w i) :: t) → (o, i, 12, a0, b0, w, ps) ∈ g_lk → Q (pc + 3) L (xd_v (UInt64.ofNat w.toNat) :: rest) M → Q pc L rest M)
theorem xd_goF_ok (hcl : ∀ S, g_pre CALL o nL ini bc bs cc P S → P S) {full : List s_I} (hfull : ∀ r ∈ full, s_okI cc o r = true) : xd_goF o nL full (xa_P P I A h0) := by
  refine ⟨?_, ?_, ?_, ?_, ?_, ?_, ?_⟩
  · intro pc kd a b v t L rest M p lo hi n hj k h Ls sts hH hL hS
    obtain ⟨x, xs, rfl, hg, hS'⟩ := xa_gS_cons hS
    obtain ⟨z, rfl, z1, z2, z3⟩ := hg
    exact hcl _ ⟨_, _, xd_dec hfull hj, Or.inr (Or.inl (Or.inr (Or.inr (Or.inr (Or.inr (Or.inr (Or.inr (Or.inr (Or.inr (Or.inr (Or.inl ⟨_, _, rfl, rfl, rfl, k z (by omega) h Ls _ hH hL ⟨xd_valI, hS'⟩⟩)))))))))))⟩
  · intro pc kd a b v t L rest M x y hj hx hy k h Ls sts hH hL hS
    obtain ⟨y', ys, rfl, hg, hS'⟩ := xa_gS_cons hS
    obtain ⟨x', xs, rfl, hg2, hS2⟩ := xa_gS_cons hS'
    rw [xd_val hg, xd_val hg2]
    obtain ⟨t1, d1, r1, e1, e2⟩ := hy
    have hv := fd_div hx e1 e2
    exact hcl _ ⟨_, _, xd_dec hfull hj, Or.inr (Or.inl (Or.inr (Or.inr (Or.inr (Or.inr (Or.inr (Or.inr (Or.inr (Or.inr (Or.inr (Or.inr (Or.inl ⟨_, _, _, rfl, rfl, hv, rfl, k h Ls _ hH hL ⟨xd_valI, hS2⟩⟩))))))))))))⟩
  · intro pc kd a b v t L rest M x y hj hx hy k h Ls sts hH hL hS
    obtain ⟨y', ys, rfl, hg, hS'⟩ := xa_gS_cons hS
    obtain ⟨x', xs, rfl, hg2, hS2⟩ := xa_gS_cons hS'
    rw [xd_val hg, xd_val hg2]
    obtain ⟨t1, d1, r1, e1, e2⟩ := hy
    have hv := fd_mul hx e1 e2
    exact hcl _ ⟨_, _, xd_dec hfull hj, Or.inr (Or.inl (Or.inr (Or.inr (Or.inr (Or.inr (Or.inr (Or.inr (Or.inr (Or.inr (Or.inr (Or.inr (Or.inr (Or.inl ⟨_, _, _, rfl, rfl, hv, rfl, k h Ls _ hH hL ⟨xd_valI, hS2⟩⟩)))))))))))))⟩
  · intro pc kd a b v t L rest M x y op hj k h Ls sts hH hL hS
    obtain ⟨y', ys, rfl, hg, hS'⟩ := xa_gS_cons hS
    obtain ⟨x', xs, rfl, hg2, hS2⟩ := xa_gS_cons hS'
    rw [xd_val hg, xd_val hg2]
    refine hcl _ ⟨_, _, xd_dec hfull hj, Or.inr (Or.inl (Or.inr (Or.inr (Or.inr (Or.inr (Or.inr (Or.inr (Or.inr (Or.inr (Or.inr (Or.inr (Or.inr (Or.inr ⟨_, _, _, _, rfl, rfl, rfl, k _ rfl h Ls _ hH hL ⟨⟨_, rfl, rfl, Int32.le_toInt _, ?_⟩, hS2⟩⟩)))))))))))))⟩
    have := Int32.toInt_lt (Op.cmpValue (FP.dcmp x y) op)
    omega
  · intro pc kd a b v t L rest M x k hj hk kk h Ls sts hH hL hS
    obtain ⟨x', xs, rfl, hg2, hS2⟩ := xa_gS_cons hS
    rw [xd_val hg2]
    exact hcl _ ⟨_, _, xd_dec hfull hj, Or.inl (Or.inr (Or.inr (Or.inr (Or.inl ⟨k, _, _, _, rfl, rfl, rfl, hk, kk h _ _ hH (xa_gL_st2 hL xd_valI) hS2⟩))))⟩
  · intro pc kd a b v t L rest M x k hj hf kk h Ls sts hH hL hS
    obtain ⟨z, hz, hg⟩ := hL _ (xa_find_in hf)
    have e := xd_val hg
    subst e
    exact hcl _ ⟨_, _, xd_dec hfull hj, Or.inl (Or.inr (Or.inl ⟨k, _, _, rfl, hz, rfl, kk h _ _ hH hL ⟨xd_valI, hS⟩⟩))⟩
  · intro pc kd a b v t L rest M i a0 b0 w ps hj hl kk h Ls sts hH hL hS
    exact hcl _ ⟨_, _, xd_dec hfull hj, Or.inl (Or.inr (Or.inr (Or.inr (Or.inr (Or.inr (Or.inr (Or.inr (Or.inr (Or.inr (Or.inr (Or.inr ⟨i, 12, a0, b0, w, ps, rfl, rfl, Or.inr rfl, hl, kk h _ _ hH hL ⟨xd_valI, hS⟩⟩)))))))))))⟩
end XD1
theorem xd_methF {I : xa_I} {A : Nat → Nat} {h0 : g_H} {d j : Nat} {Q0 : s_MI} (hq : s_mi[j]? = some Q0) (hz : Q0.2.2.2.1 = 0 ∧ Q0.2.2.2.2.1 = 0) {full : List s_I} (hfu : s_codes.getD j [] = full) {vs : List xa_V} {M : xa_M} {post : Option xa_V → xa_M → Prop} (hlen : Nat.ble (xa_sum vs) Q0.1 = true)
    (body : xa_Mok I M → (∀ v ∈ vs, xa_vok v) → ∀ Q : xa_Q, xa_go I (xa_C I A h0 d) post full Q0.1 Q0.2.1 Q → xd_goF Q0.2.2.2.2.2 Q0.1 full Q → Q 0 (xa_args 0 vs) [] M) : xa_C I A h0 (d + 1) j vs M post := by
  intro h xs hH hA post' hpost
  obtain ⟨m1, m2, m3, m4, m5⟩ := s_mi_ok j Q0 hq
  obtain ⟨c1, c2⟩ := s_codes_ok j Q0 hq
  rw [hfu] at c1 c2
  refine ⟨m1, by rw [m2, xa_slA hA]; exact Nat.le_of_ble_eq_true hlen, ?_⟩
  rw [m5, m2, m4]
  intro P hend hcl
  have hvs : ∀ {vs : List xa_V} {xs : List Value}, xa_gS A vs xs → ∀ v ∈ vs, xa_vok v := by
    intro vs
    induction vs with
    | nil => intro xs _ v hv; cases hv
    | cons w ws ih =>
      intro xs hS v hv
      obtain ⟨x, ys, rfl, hg, hS'⟩ := xa_gS_cons hS
      rcases List.mem_cons.mp hv with rfl | hv
      · exact fun hk => xa_num hk hg
      · exact ih hS' v hv
  have hgo : xa_go I (xa_C I A h0 d) post full Q0.1 Q0.2.1 (xa_P P I A h0) := by
    refine ⟨fun n cuts pc L st M e => ?_, fun pc L L' st M e hQ h Ls sts hH hL hS => hQ h Ls sts hH (xa_sub_ok e hL) hS, fun pc L st M hQ h Ls sts hH hL hS => hQ (xa_H_Mok hH) (fun p hp hk => ?_) h Ls sts hH hL hS⟩
    · exact xa_jp_ok c2 e (xa_wp_ok hcl s_ft_ok (fun j q hq => s_mi_ok j q hq) (fun j vs M post hc h xs hH hA post' hp => hc h xs hH hA post' hp) c2 m3 hend hpost n)
    · obtain ⟨x, -, hg⟩ := hL p hp
      exact xa_num hk hg
  exact body (xa_H_Mok hH) (hvs hA) _ hgo (xd_goF_ok hcl c2) h (lv_args 0 xs) [] hH (xa_args_ok hA) trivial

theorem fs_ge1 {R V : Int → Int} (n : Nat) (h : ∀ i : Int, 0 ≤ i → i < n → 1 ≤ V i) : 1 ≤ fs_u R V n := by
  induction n with
  | zero => exact Int.le_refl 1
  | succ n ih =>
    have a := ih (fun i i0 i1 => h i i0 (by omega))
    have c := h n (by omega) (by omega)
    rw [fs_u1]
    have m1 := Int.mul_le_mul a (show (1 : Int) ≤ (if 0 < R n then V n else 1) by split <;> omega) (by decide) (by omega)
    rw [Int.one_mul] at m1
    exact m1
theorem fd_divV {x y : UInt64} {n : Nat} (hx : vf_n64 x) (hy : fd_N y n 1 1 12) : vf_n64 (FP.ddiv x y) := by
  obtain ⟨t, d, r, e1, e2⟩ := fd_Np hy
  exact fd_div hx e1 e2
theorem fd_mulV {x y : UInt64} {n : Nat} (hx : vf_n64 x) (hy : fd_N y n 1 1 12) : vf_n64 (FP.dmul x y) := by
  obtain ⟨t, d, r, e1, e2⟩ := fd_Np hy
  exact fd_mul hx e1 e2
theorem ct_isFitF {A : Nat → Nat} {h0 : g_H} {d : Nat} {M : xa_M} {post : Option xa_V → xa_M → Prop} {l u p : Int} (hI : xm_Inv M) (hW : xm_way M) (hF : xm_fit M) (p0 : 0 ≤ p) (p1 : p < M 60 11) (k : ∀ (r : Int) (M1 : xa_M), (r = 0 ∨ r = 1) → (r = 1 ↔ M 71 p * fs_u (M 81) (M 84) (M 60 32).toNat = M 70 p * fs_d (M 81) (M 84) (M 60 32).toNat) → (∀ q j, q ≠ 85 → q ≠ 86 → M1 q j = M q j) → post (some (0, 0, 0, 1, r)) M1) : xa_C xm_I A h0 (d + 3) 242 [(2, 60, 0, 0, 0), (0, 0, l, u, p)] M post := by
  refine xa_C_asm (fun hM _ => ?_)
  have b11 := xm_f11 hM
  have b32 := xm_f32 hM
  have hpp := hI.2.2.1 p p0 p1
  have hsp : ∀ i, 0 ≤ i → i < M 60 32 → 10 ≤ M 84 i ∧ M 84 i ≤ 400 := fun i i0 i1 => by
    have h1 := xm_way_sp hM hI hW i i0 i1
    have h2 := hF i i0 i1
    have h3 := xm_t84 hM i i0 (by omega)
    omega
  refine xa_C_arg [(2, 60, 0, 0, 0), (0, 0, 0, 7, p)] (xa_svR (xa_svI (fun _ _ _ _ => by omega) xa_sv0)) ?_
  refine xa_C_wk (xd_methF (post := xa_wk post) (Q0 := (10, 2, false, 0, 0, 12)) (by decide +kernel) ⟨rfl, rfl⟩ (full := s_c_242) rfl rfl ?_)
  intro _ _ Q hgo hx
  obtain ⟨hi2d, hdiv, hmul, hcmp, hst, hld, hldc⟩ := hx
  obtain ⟨ps1, hk1⟩ := xd_lk1
  obtain ⟨ps2, hk2⟩ := xd_lk2
  have q97 : Q 97 [(1, (0, 0, 0, 7, p)), (0, (2, 60, 0, 0, 0))] [] M := xm_if97F hM hI (fun i i0 i1 => (hsp i i0 i1).1) p0 p1 k hgo
  have hpos : 1 ≤ M 71 p * fs_u (M 81) (M 84) (M 60 32).toNat := by
    have m1 := fs_ge1 (R := M 81) (V := M 84) (M 60 32).toNat (fun i i0 i1 => by have := hsp i i0 (by omega); omega)
    have m2 := Int.mul_le_mul (show (1 : Int) ≤ M 71 p by omega) m1 (by decide) (by omega)
    rw [Int.one_mul] at m2
    exact m2
  have q79 : ∀ x : UInt64, (∃ N D : Nat, (N : Int) = M 71 p * fs_u (M 81) (M 84) (M 60 32).toNat ∧ (D : Int) = M 70 p * fs_d (M 81) (M 84) (M 60 32).toNat ∧ fd_N x N D 50 1000) → Q 79 [(2, xd_v x), (1, (0, 0, 0, 7, p)), (0, (2, 60, 0, 0, 0))] [] M := by
    intro x hx
    have near : M 71 p * fs_u (M 81) (M 84) (M 60 32).toNat = M 70 p * fs_d (M 81) (M 84) (M 60 32).toNat → ∀ o1 o2, 0 ≤ (Op.cmpValue (FP.dcmp x (UInt64.ofNat (4607182409792818153 : Int).toNat)) o1).toInt ∧ (Op.cmpValue (FP.dcmp x (UInt64.ofNat (4607182423303617035 : Int).toNat)) o2).toInt ≤ 0 := fun h o1 o2 => by
      obtain ⟨N, D, e1, e2, e3⟩ := hx
      have e : D = N := by omega
      rw [e] at e3
      exact fd_one (by omega) e3 (Nat.le_refl _) (Int.le_refl _) o1 o2
    clear hx
    refine hld 79 _ _ _ _ _ _ _ _ x 2 rfl rfl ?_
    refine hldc 80 _ _ _ _ _ _ _ _ 245 0 0 4607182409792818153 ps1 rfl hk1 ?_
    refine hcmp 83 _ _ _ _ _ _ _ _ x _ _ rfl (fun n hn => ?_)
    refine hgo.1 6 [87] 84 _ _ _ ?_
    refine And.intro ?_ ?_
    · intro (cl : n < 0)
      show xa_wk post (some (0, 0, 0, 0, 0)) M
      exact xa_wkI 0 rfl (fun _ _ => by omega) (k 0 _ (by omega) ⟨fun h => absurd h (by decide), fun h => by
        have := (near h ClassFile.CmpOp.g ClassFile.CmpOp.l).1
        rw [← hn] at this
        omega⟩ (fun _ _ _ _ => rfl))
    · intro _
      show Q 87 [(2, xd_v x), (1, (0, 0, 0, 7, p)), (0, (2, 60, 0, 0, 0))] [] M
      refine hld 87 _ _ _ _ _ _ _ _ x 2 rfl rfl ?_
      refine hldc 88 _ _ _ _ _ _ _ _ 247 0 0 4607182423303617035 ps2 rfl hk2 ?_
      refine hcmp 91 _ _ _ _ _ _ _ _ x _ _ rfl (fun n2 hn2 => ?_)
      refine hgo.1 6 [97] 92 _ _ _ ?_
      refine And.intro ?_ ?_
      · intro _
        show Q 97 [(2, xd_v x), (1, (0, 0, 0, 7, p)), (0, (2, 60, 0, 0, 0))] [] M
        exact hgo.2.1 97 _ _ _ _ (xa_subI rfl rfl (fun _ _ _ _ => by omega) (xa_subR rfl xa_sub0)) q97
      · intro (cl : 0 < n2)
        show xa_wk post (some (0, 0, 0, 0, 0)) M
        exact xa_wkI 0 rfl (fun _ _ => by omega) (k 0 _ (by omega) ⟨fun h => absurd h (by decide), fun h => by
          have := (near h ClassFile.CmpOp.g ClassFile.CmpOp.l).2
          rw [← hn2] at this
          omega⟩ (fun _ _ _ _ => rfl))
  have loop : ∀ (n : Nat) (x4 : Int) (x : UInt64), 0 ≤ x4 ∧ x4 ≤ 14 → x4 ≤ M 60 32 → vf_n64 x → (∃ N D : Nat, (N : Int) = M 71 p * fs_u (M 81) (M 84) x4.toNat ∧ (D : Int) = M 70 p * fs_d (M 81) (M 84) x4.toNat ∧ fd_N x N D (4 + 3 * x4.toNat) (26 + 14 * x4)) → 14 - x4 < (n : Int) → Q 19 [(4, (0, 0, 0, 14, x4)), (2, xd_v x), (1, (0, 0, 0, 7, p)), (0, (2, 60, 0, 0, 0))] [] M := by
    intro n
    induction n with
    | zero => intro x4 x b4 b5 _ hN hms; clear hN; omega
    | succ n ih =>
      intro x4 x b4 b5 hx hN hms
      obtain ⟨N, D, n1, n2, n3⟩ := hN
      obtain ⟨us, ds⟩ := if_us (R := M 81) (V := M 84) (x := x4) b4.1
      have h10 := fun h : x4 < M 60 32 => hsp x4 (by omega) h
      refine hgo.1 20 [19, 38, 62, 79] 19 _ _ _ ?_
      refine And.intro ?_ ?_
      · intro (ce : (M 60 32) ≤ x4)
        show Q 79 [(4, (0, 0, 0, 14, x4)), (2, xd_v x), (1, (0, 0, 0, 7, p)), (0, (2, 60, 0, 0, 0))] [] M
        exact hgo.2.1 79 _ _ _ _ (xd_subD rfl rfl (xa_subI rfl rfl (fun _ _ _ _ => by omega) (xa_subR rfl xa_sub0))) (q79 x ⟨N, D, by rw [n1, show x4 = M 60 32 by omega], by rw [n2, show x4 = M 60 32 by omega], fd_Nm n3 (by omega) (by omega)⟩)
      · intro (c1 : x4 < M 60 32)
        have h10 := h10 c1
        refine And.intro (show 0 ≤ x4 ∧ x4 < 14 by omega) ?_
        refine And.intro ?_ ?_
        · intro (r1 : (M 81 x4) ≤ 0)
          refine And.intro (show 0 ≤ x4 ∧ x4 < 14 by omega) ?_
          refine And.intro ?_ ?_
          · intro (r2 : 0 ≤ (M 81 x4))
            show Q 19 [(4, (0, 0, 1, 15, x4 + 1)), (2, xd_v x), (1, (0, 0, 0, 7, p)), (0, (2, 60, 0, 0, 0))] [] M
            refine hgo.2.1 19 _ _ _ _ (xa_subI rfl rfl (fun _ _ _ _ => by omega) (xd_subD rfl rfl (xa_subI rfl rfl (fun _ _ _ _ => by omega) (xa_subR rfl xa_sub0)))) (ih (x4 + 1) x (by omega) (by omega) hx ⟨N, D, by rw [us, if_neg (by omega), Int.mul_one]; exact n1, by rw [ds, if_neg (by omega), Int.mul_one]; exact n2, fd_Nm n3 (by omega) (by omega)⟩ (by omega))
          · intro (r2 : (M 81 x4) < 0)
            show Q 62 [(4, (0, 0, 0, 14, x4)), (2, xd_v x), (1, (0, 0, 0, 7, p)), (0, (2, 60, 0, 0, 0))] [] M
            refine hld 62 _ _ _ _ _ _ _ _ x 2 rfl rfl ?_
            refine hgo.1 8 [70] 63 _ _ _ ?_
            refine And.intro (show 0 ≤ x4 ∧ x4 < 14 by omega) ?_
            show Q 70 [(4, (0, 0, 0, 14, x4)), (2, xd_v x), (1, (0, 0, 0, 7, p)), (0, (2, 60, 0, 0, 0))] [(0, 0, 0, 400, M 84 x4), xd_v x] M
            refine hi2d 70 _ _ _ _ _ _ _ _ _ _ _ _ rfl (fun z hz => ?_)
            obtain ⟨w, hw⟩ : ∃ w : Nat, (w : Int) = M 84 x4 := ⟨(M 84 x4).toNat, by omega⟩
            have hm := fd_i2dN (z := z) (n := w) (by omega) (by omega) (by omega)
            have hy := fd_divN n3 hm (by omega)
            have hv := fd_divV hx hm
            refine hdiv 71 _ _ _ _ _ _ _ _ x _ rfl hx (fd_Np hm) ?_
            refine hst 72 _ _ _ _ _ _ _ _ _ 2 rfl (show 2 + 1 < 10 by decide) ?_
            refine hgo.1 6 [19] 73 _ _ _ ?_
            show Q 19 [(4, (0, 0, 1, 15, x4 + 1)), (2, xd_v (FP.ddiv x (FP.i2d z))), (1, (0, 0, 0, 7, p)), (0, (2, 60, 0, 0, 0))] [] M
            refine hgo.2.1 19 _ _ _ _ (xa_subI rfl rfl (fun _ _ _ _ => by omega) (xd_subD rfl rfl (xa_subI rfl rfl (fun _ _ _ _ => by omega) (xa_subR rfl xa_sub0)))) (ih (x4 + 1) _ (by omega) (by omega) hv ⟨N, D * w, by rw [us, if_neg (by omega), Int.mul_one]; exact n1, by rw [ds, if_pos (by omega), Int.natCast_mul, n2, hw, Int.mul_assoc], fd_Nm hy (by omega) (by omega)⟩ (by omega))
        · intro (r1 : 0 < (M 81 x4))
          show Q 38 [(4, (0, 0, 0, 14, x4)), (2, xd_v x), (1, (0, 0, 0, 7, p)), (0, (2, 60, 0, 0, 0))] [] M
          refine hld 38 _ _ _ _ _ _ _ _ x 2 rfl rfl ?_
          refine hgo.1 8 [46] 39 _ _ _ ?_
          refine And.intro (show 0 ≤ x4 ∧ x4 < 14 by omega) ?_
          show Q 46 [(4, (0, 0, 0, 14, x4)), (2, xd_v x), (1, (0, 0, 0, 7, p)), (0, (2, 60, 0, 0, 0))] [(0, 0, 0, 400, M 84 x4), xd_v x] M
          refine hi2d 46 _ _ _ _ _ _ _ _ _ _ _ _ rfl (fun z hz => ?_)
          obtain ⟨w, hw⟩ : ∃ w : Nat, (w : Int) = M 84 x4 := ⟨(M 84 x4).toNat, by omega⟩
          have hm := fd_i2dN (z := z) (n := w) (by omega) (by omega) (by omega)
          have hy := fd_mulN n3 hm (by omega)
          have hv := fd_mulV hx hm
          refine hmul 47 _ _ _ _ _ _ _ _ x _ rfl hx (fd_Np hm) ?_
          refine hst 48 _ _ _ _ _ _ _ _ _ 2 rfl (show 2 + 1 < 10 by decide) ?_
          refine hgo.1 6 [19] 49 _ _ _ ?_
          show Q 19 [(4, (0, 0, 1, 15, x4 + 1)), (2, xd_v (FP.dmul x (FP.i2d z))), (1, (0, 0, 0, 7, p)), (0, (2, 60, 0, 0, 0))] [] M
          refine hgo.2.1 19 _ _ _ _ (xa_subI rfl rfl (fun _ _ _ _ => by omega) (xd_subD rfl rfl (xa_subI rfl rfl (fun _ _ _ _ => by omega) (xa_subR rfl xa_sub0)))) (ih (x4 + 1) _ (by omega) (by omega) hv ⟨N * w, D, by rw [us, if_pos (by omega), Int.natCast_mul, n1, hw, Int.mul_assoc], by rw [ds, if_neg (by omega), Int.mul_one]; exact n2, fd_Nm hy (by omega) (by omega)⟩ (by omega))
  refine hgo.1 8 [6] 0 _ _ _ ?_
  show Q 6 [(0, (2, 60, 0, 0, 0)), (1, (0, 0, 0, 7, p))] [(0, 0, 0, 2000, M 71 p)] M
  have t70 := xm_t70 hM p p0 (by omega)
  have t71 := xm_t71 hM p p0 (by omega)
  refine hi2d 6 _ _ _ _ _ _ _ _ _ _ _ _ rfl (fun z1 hz1 => ?_)
  obtain ⟨w1, hw1⟩ : ∃ w : Nat, (w : Int) = M 71 p := ⟨(M 71 p).toNat, by omega⟩
  have hm1 := fd_i2dN (z := z1) (n := w1) (by omega) (by omega) (by omega)
  refine hgo.1 8 [13] 7 _ _ _ ?_
  show Q 13 [(0, (2, 60, 0, 0, 0)), (1, (0, 0, 0, 7, p))] [(0, 0, 0, 2000, M 70 p), xd_v (FP.i2d z1)] M
  refine hi2d 13 _ _ _ _ _ _ _ _ _ _ _ _ rfl (fun z2 hz2 => ?_)
  obtain ⟨w2, hw2⟩ : ∃ w : Nat, (w : Int) = M 70 p := ⟨(M 70 p).toNat, by omega⟩
  have hm2 := fd_i2dN (z := z2) (n := w2) (by omega) (by omega) (by omega)
  have hy := fd_divN hm1 hm2 (by omega)
  have hv := fd_divV (fd_i2d z1) hm2
  refine hdiv 14 _ _ _ _ _ _ _ _ _ _ rfl (fd_i2d z1) (fd_Np hm2) ?_
  refine hst 15 _ _ _ _ _ _ _ _ _ 2 rfl (show 2 + 1 < 10 by decide) ?_
  refine hgo.1 6 [19] 16 _ _ _ ?_
  show Q 19 [(4, (0, 0, 0, 0, 0)), (2, xd_v (FP.ddiv (FP.i2d z1) (FP.i2d z2))), (0, (2, 60, 0, 0, 0)), (1, (0, 0, 0, 7, p))] [] M
  exact hgo.2.1 19 _ _ _ _ (xa_subI rfl rfl (fun _ _ _ _ => by omega) (xd_subD rfl rfl (xa_subI rfl rfl (fun _ _ _ _ => by omega) (xa_subR rfl xa_sub0)))) (loop 15 0 _ (by omega) (by omega) hv ⟨w1, 1 * w2, by rw [hw1]; exact (Int.mul_one _).symm, by rw [Nat.one_mul, hw2]; exact (Int.mul_one _).symm, fd_Nm hy (by omega) (by omega)⟩ (by omega))
-- the reference's count of fittings: what it is at each step
set_option maxRecDepth 20000
/-- what fits, by the numbers of a memory -/
def fr_F (M : xa_M) (p : Int) : Int → Prop := fs_F (fr_L M) (fr_H M) (M 81) (M 60 32).toNat (M 71 p) (M 70 p)
def fr_r (M M1 : xa_M) : Int := fs_rk (fr_L M) (fr_H M) (M1 84) (M 60 32).toNat
/-- but for the tuple, what isFitting writes and the row all is as it was -/
def fr_K (M M1 : xa_M) : Prop := ∀ q j, ¬ (q = 84 ∨ q = 85 ∨ q = 86 ∨ q = 74 ∨ q = 87) → ¬ (q = 60 ∧ (j = 20 ∨ j = 39)) → M1 q j = M q j
theorem fr_Kr {M : xa_M} : fr_K M M := fun _ _ _ _ => rfl
theorem fr_L_k {M M1 : xa_M} (h : fr_K M M1) : fr_L M1 = fr_L M ∧ fr_H M1 = fr_H M ∧ M1 81 = M 81 ∧ M1 60 32 = M 60 32 ∧ M1 71 = M 71 ∧ M1 70 = M 70 := by
  have e80 : M1 80 = M 80 := funext (fun j => h 80 j (by decide) (fun e => absurd e.1 (by decide)))
  have e61 : M1 61 = M 61 := funext (fun j => h 61 j (by decide) (fun e => absurd e.1 (by decide)))
  have e62 : M1 62 = M 62 := funext (fun j => h 62 j (by decide) (fun e => absurd e.1 (by decide)))
  refine ⟨?_, ?_, funext (fun j => h 81 j (by decide) (fun e => absurd e.1 (by decide))), h 60 32 (by decide) (by decide), funext (fun j => h 71 j (by decide) (fun e => absurd e.1 (by decide))), funext (fun j => h 70 j (by decide) (fun e => absurd e.1 (by decide)))⟩
  · unfold fr_L
    rw [e61, e80]
  · unfold fr_H
    rw [e62, e80]
theorem fr_in {M M1 : xa_M} (h : fr_K M M1) (hF : xm_fit M1) : fs_in (fr_L M) (fr_H M) (M1 84) (M 60 32).toNat := fun i i0 i1 => by
  obtain ⟨a, b, -, d, -, -⟩ := fr_L_k h
  have g := hF i i0 (by rw [d]; omega)
  rw [← a, ← b]
  exact g
theorem fr_fit {M M1 : xa_M} {p : Int} (h : fr_K M M1) (hF : xm_fit M1) : (M1 71 p * fs_u (M1 81) (M1 84) (M1 60 32).toNat = M1 70 p * fs_d (M1 81) (M1 84) (M1 60 32).toNat) ↔ fr_F M p (fr_r M M1) := by
  obtain ⟨-, -, c, d, e, f⟩ := fr_L_k h
  unfold fr_F fr_r
  rw [fs_Fi (fr_in h hF), c, d, e, f, Int.mul_comm (M 71 p), Int.mul_comm (M 70 p)]
theorem fr_r0 {M M1 : xa_M} (h : fr_K M M1) (hF : xm_fit M1) : 0 ≤ fr_r M M1 ∧ fr_r M M1 < fs_pr (fr_L M) (fr_H M) (M 60 32).toNat := fs_rk_b _ (fr_in h hF)
/-- isFitting, by the tuple's place -/
theorem fr_isF {A : Nat → Nat} {h0 : g_H} {d : Nat} {M M1 : xa_M} {post : Option xa_V → xa_M → Prop} {l u p y : Int} (hK : fr_K M M1) (hI : xm_Inv M1) (hW : xm_W M1 y) (hp0 : 0 ≤ p) (hp1 : p < M1 60 11) (k : ∀ (r : Int) (M2 : xa_M), (r = 0 ∨ r = 1) → (r = 1 ↔ fr_F M p (fr_r M M1)) → xm_cor M1 M2 → M2 60 20 = M1 60 20 → xm_W M2 y → xm_rk M2 (M2 60 32).toNat = xm_rk M1 (M1 60 32).toNat → fr_K M M2 → fr_r M M2 = fr_r M M1 → post (some (0, 0, 0, 1, r)) M2) : xa_C xm_I A h0 (d + 3) 242 [(2, 60, 0, 0, 0), (0, 0, l, u, p)] M1 post :=
  ct_isFitF hI hW.1 hW.2.1 hp0 hp1 (fun r M2 hr he h => by
    have h86 : xm_86 M1 M2 := fun q j hq => h q j hq.1 hq.2.1
    refine k r M2 hr (he.trans (fr_fit hK hW.2.1)) (fun q j hs => h q j (fun e => hs (by subst e; exact Or.inl (by decide))) (fun e => hs (by subst e; exact Or.inl (by decide)))) (h 60 20 (by decide) (by decide)) (xm_86_W h86 hW).1 (xm_86_W h86 hW).2 (fun q j h1 h2 => (h q j (by omega) (by omega)).trans (hK q j h1 h2)) ?_
    unfold fr_r
    rw [show M2 84 = M1 84 from funext (fun j => h 84 j (by decide) (by decide))])
/-- the tuples left and those behind -/
theorem xm_rks {M : xa_M} (n : Nat) : xm_rk M n + fs_rk (fr_L M) (fr_H M) (M 84) n + 1 = fs_pr (fr_L M) (fr_H M) n := by
  induction n with
  | zero => rfl
  | succ n ih =>
    show xm_rk M n * xm_sp M n + (M 62 (M 80 n) - M 84 n) + (fs_rk (fr_L M) (fr_H M) (M 84) n * (fr_H M n - fr_L M n + 1) + (M 84 n - fr_L M n)) + 1 = fs_pr (fr_L M) (fr_H M) n * (fr_H M n - fr_L M n + 1)
    have e : xm_sp M n = fr_H M n - fr_L M n + 1 := rfl
    have e1 : fr_H M n = M 62 (M 80 n) := rfl
    rw [← ih, e, Int.add_mul, Int.add_mul, Int.one_mul, e1]
    omega
/-- the next tuple, by its place -/
theorem fr_nextW {A : Nat → Nat} {h0 : g_H} {d : Nat} {M M1 : xa_M} {post : Option xa_V → xa_M → Prop} {y : Int} (hK : fr_K M M1) (hW : xm_W M1 y) (k : ∀ (r : Int) (M2 : xa_M), (r = 0 ∨ r = 1) → xm_cor M1 M2 → M2 60 20 = M1 60 20 → (∀ z, z ≤ y + 1 → r = 1 → xm_W M2 z) → (r = 1 → xm_rk M2 (M2 60 32).toNat < xm_rk M1 (M1 60 32).toNat) → fr_K M M2 → (r = 1 → fr_r M M2 = fr_r M M1 + 1) → (r = 0 → fr_r M M1 + 1 = fs_pr (fr_L M) (fr_H M) (M 60 32).toNat) → post (some (0, 0, 0, 1, r)) M2) : xa_C xm_I A h0 (d + 1) 243 [(2, 60, 0, 0, 0)] M1 post := by
  obtain ⟨eL, eH, -, e32, -, -⟩ := fr_L_k hK
  refine ct_nextWayF hW.2.1 (fun r M2 hr h84 hF hn hl => ?_)
  rw [eL, eH, e32] at hn hl
  have e32' := h84 60 32 (by decide)
  have e0 := h84 60 0 (by decide)
  have hK2 : fr_K M M2 := fun q j h1 h2 => (h84 q j (by omega)).trans (hK q j h1 h2)
  -- xm_rk falls as fs_rk grows
  have s1 := xm_rks (M := M1) (M1 60 32).toNat
  have s2 := xm_rks (M := M2) (M2 60 32).toNat
  obtain ⟨eL2, eH2, -, e322, -, -⟩ := fr_L_k hK2
  rw [eL, eH] at s1
  rw [eL2, eH2] at s2
  rw [e32] at s1
  rw [e322] at s2
  have hlt : r = 1 → xm_rk M2 (M2 60 32).toNat < xm_rk M1 (M1 60 32).toNat := fun h1 => by
    have := hn h1
    rw [e32, e322]
    omega
  refine k r M2 hr (xm_84_c h84) (h84 60 20 (by decide)) (fun z hz h1 => ⟨fun i i0 i1 => ?_, hF, ?_, ?_⟩) hlt hK2 hn hl
  · rw [e32'] at i1
    rw [e0, h84 80 i (by decide)]
    exact hW.1 i i0 i1
  · rw [e32', xm_pr_84 h84]
    exact hW.2.2.1
  · have := hlt h1
    have := hW.2.2.2
    omega
/-- x tuples that fit lie ahead of the place of M1's -/
theorem fr_c1 {M M1 : xa_M} {p r x : Int} (h0 : 0 ≤ fr_r M M1) (hr : r = 0 ∨ r = 1) (he : r = 1 ↔ fr_F M p (fr_r M M1)) (hx : x = fs_c (fr_F M p) (fr_r M M1).toNat) : x + r = fs_c (fr_F M p) (fr_r M M1 + 1).toNat := by
  rw [show (fr_r M M1 + 1).toNat = (fr_r M M1).toNat + 1 by omega]
  have ez : (((fr_r M M1).toNat : Nat) : Int) = fr_r M M1 := Int.toNat_of_nonneg h0
  rcases hr with e | e
  · have hn : ¬ fr_F M p (((fr_r M M1).toNat : Nat) : Int) := fun h => by
      rw [ez] at h
      have := he.mpr h
      omega
    rw [fs_c0 hn, e, hx, Int.add_zero]
  · rw [fs_c1 (by rw [ez]; exact he.mp e), e, hx]
-- findWay of the reference, its roles and wheels told
set_option maxRecDepth 20000
theorem ct_findWayG {A : Nat → Nat} {h0 : g_H} {d : Nat} {M : xa_M} {post : Option xa_V → xa_M → Prop} {l1 u1 : Int} {x1 : Int} (hI : xm_Inv M) (hx0 : 0 ≤ x1) (hx1 : x1 ≤ 9) (k : ∀ (r : Int) (M1 : xa_M), (r = 0 ∨ r = 1) → xm_cor M M1 → (r = 1 → xm_way M1) → wv_Q M x1 M1 r → post (some (0, 0, 0, 1, r)) M1) : xa_C xm_I A h0 (d + 2) 236 [(2, 60, 0, 0, 0), (0, 0, l1, u1, x1)] M post := by
  refine xa_C_arg [(2, 60, 0, 0, 0), (0, 0, 0, 9, x1)] (xa_svR (xa_svI (fun _ _ _ _ => by omega) xa_sv0)) (xa_C_wk ?_)
  refine xa_meth (Q0 := (11, 2, false, 0, 0, 12)) (by decide +kernel) ⟨rfl, rfl⟩ (full := s_c_236) rfl rfl ?_
  intro hM hv Q hgo
  have hX : 0 ≤ x1 ∧ x1 ≤ 9 := ⟨hx0, hx1⟩
  have hAB : ∀ i, 0 ≤ i → i < M 60 6 → (0 ≤ xw_A M i ∧ xw_A M i < 10) ∧ (0 ≤ xw_B M i ∧ xw_B M i < 10) := fun i i0 i1 => by
    have := xm_msh hM hI i0 i1
    exact ⟨⟨this.2.2.1.1, by show M 64 (M 66 i) < 10; omega⟩, ⟨this.2.2.2.1.1, by show M 64 (M 67 i) < 10; omega⟩⟩
  have loop6 : ∀ (n : Nat) (x4 : Int) (M1 : xa_M), 0 ≤ x4 ∧ x4 ≤ 14 → xm_cor M M1 → M1 60 32 ≤ x4 → (∀ i, 0 ≤ i → i < M1 60 32 → M1 80 i < M1 60 0) → wv_D M x1 M1 → (x4 ≤ M1 60 0 ∧ wv_W M1 x4) → 14 - x4 < (n : Int) → Q 421 [(4, (0, 0, 0, 14, x4)), (2, (2, 82, 0, 0, 0)), (1, (0, 0, 0, 9, x1)), (0, (2, 60, 0, 0, 0))] [] M1 := by
    intro n
    induction n with
    | zero => intro x4 M1 b4 hc hk hwy hD hW9 hms; clear hD hW9; omega
    | succ n ih6 =>
      intro x4 M1 b4 hc hk hwy hD hW9 hms6
      obtain ⟨hD9, hD9e⟩ : ∃ P : Prop, P = wv_D M x1 M1 := ⟨_, rfl⟩
      rw [← hD9e] at hD
      refine hgo.2.2 _ _ _ _ (fun hM1 _ => ?_)
      have b32 := xm_f32 hM1
      have b0 := xm_f0 hM1
      refine hgo.1 36 [2, 33, 41, 169, 194, 205, 421, 349, 365, 381] 421 _ _ _ ?_
      refine And.intro ?_ ?_
      · intro (c1 : (M1 60 0) ≤ x4)
        show xa_wk post (some (0, 0, 1, 1, 1)) M1
        rw [hD9e] at hD
        exact xa_wkI 1 rfl (fun _ _ => by decide) (k 1 _ (Or.inr rfl) hc (fun _ => hwy) ⟨hD.1, Or.inl ⟨rfl, hD, (show M 60 0 = x4 by have e0 := xm_corf hc 0 (by omega); omega) ▸ hW9.2⟩⟩)
      · intro (c1 : x4 < (M1 60 0))
        refine And.intro (show 0 ≤ x4 ∧ x4 < 14 by omega) ?_
        refine And.intro ?_ ?_
        · intro (c2 : ¬ (M1 83 x4) = 0)
          refine And.intro (show 0 ≤ (M1 60 32) ∧ (M1 60 32) < 14 by omega) ?_
          refine And.intro (show 0 ≤ x4 ∧ x4 ≤ 13 by omega) ?_
          refine And.intro (show 0 ≤ x4 ∧ x4 < 14 by omega) ?_
          refine And.intro (show 0 ≤ (M1 60 32) ∧ (M1 60 32) < 14 by omega) ?_
          refine And.intro (show 0 ≤ ((M1 60 32) + 1) ∧ ((M1 60 32) + 1) ≤ 14 by omega) ?_
          show Q 421 [(4, (0, 0, 1, 15, x4 + 1)), (2, (2, 82, 0, 0, 0)), (1, (0, 0, 0, 9, x1)), (0, (2, 60, 0, 0, 0))] [] (xa_up (xa_up (xa_up M1 80 (M1 60 32) x4) 81 (M1 60 32) (M1 82 x4)) 60 32 ((M1 60 32) + 1))
          refine hgo.2.1 421 _ [(4, (0, 0, 0, 14, x4 + 1)), (2, (2, 82, 0, 0, 0)), (1, (0, 0, 0, 9, x1)), (0, (2, 60, 0, 0, 0))] _ _ (xa_subI rfl rfl (fun _ _ _ _ => by omega) (xa_subR rfl (xa_subI rfl rfl (fun _ _ _ _ => by omega) (xa_subR rfl xa_sub0)))) ?_
          exact ih6 (x4 + 1) (xa_up (xa_up (xa_up M1 80 (M1 60 32) x4) 81 (M1 60 32) (M1 82 x4)) 60 32 ((M1 60 32) + 1)) (by omega) (xm_cor_f (by omega) (xm_cor_a rfl (xm_cor_a rfl hc))) (by first | omega | (simp [xa_up]; done) | (simp [xa_up]; omega)) (fun i i0 i1 => by simp [xa_up] at i1 ⊢; by_cases e : i = M1 60 32; (rw [if_pos e]; omega); (rw [if_neg e]; exact hwy i i0 (by omega))) (wv_D_k (fun j => (xa_up_ne (fun e => absurd e.1 (by decide))).trans ((xa_up_ne (fun e => absurd e.1 (by decide))).trans (xa_up_ne (fun e => absurd e.1 (by decide))))) (fun j => (xa_up_ne (fun e => absurd e.1 (by decide))).trans ((xa_up_ne (fun e => absurd e.1 (by decide))).trans (xa_up_ne (fun e => absurd e.1 (by decide))))) ((xa_up_ne (by omega)).trans ((xa_up_ne (by omega)).trans (xa_up_ne (by omega)))) (fun j => (xa_up_ne (fun e => absurd e.1 (by decide))).trans ((xa_up_ne (fun e => absurd e.1 (by decide))).trans (xa_up_ne (fun e => absurd e.1 (by decide))))) (fun j => (xa_up_ne (fun e => absurd e.1 (by decide))).trans ((xa_up_ne (fun e => absurd e.1 (by decide))).trans (xa_up_ne (fun e => absurd e.1 (by decide))))) (hD9e ▸ hD)) ⟨(show x4 + 1 ≤ xa_up (xa_up (xa_up M1 80 (M1 60 32) x4) 81 (M1 60 32) (M1 82 x4)) 60 32 ((M1 60 32) + 1) 60 0 from by rw [xa_up_ne (by omega), xa_up_ne (by omega), xa_up_ne (by omega)]; omega), (wv_Wy b4.1 (by omega) (wv_b01 ((hD9e ▸ hD) : wv_D M x1 M1)) hW9.2 c2 xa_up_eq (fun j => by
            rw [xa_up_ne (fun e => absurd e.1 (by decide)), xa_up_ne (fun e => absurd e.1 (by decide))]
            by_cases e : j = M1 60 32
            · rw [e, if_pos rfl]
              exact xa_up_eq
            · rw [if_neg e]
              exact xa_up_ne (fun h => e h.2)) (fun j => by
            rw [xa_up_ne (fun e => absurd e.1 (by decide))]
            by_cases e : j = M1 60 32
            · rw [e, if_pos rfl]
              exact xa_up_eq
            · rw [if_neg e]
              exact (xa_up_ne (fun h => e h.2)).trans (xa_up_ne (fun h => absurd h.1 (by decide)))) (fun j => (xa_up_ne (fun e => absurd e.1 (by decide))).trans ((xa_up_ne (fun e => absurd e.1 (by decide))).trans (xa_up_ne (fun e => absurd e.1 (by decide))))) (fun j => (xa_up_ne (fun e => absurd e.1 (by decide))).trans ((xa_up_ne (fun e => absurd e.1 (by decide))).trans (xa_up_ne (fun e => absurd e.1 (by decide))))))⟩ (by omega)
        · intro (c2 : (M1 83 x4) = 0)
          show Q 421 [(4, (0, 0, 1, 15, x4 + 1)), (2, (2, 82, 0, 0, 0)), (1, (0, 0, 0, 9, x1)), (0, (2, 60, 0, 0, 0))] [] M1
          refine hgo.2.1 421 _ [(4, (0, 0, 0, 14, x4 + 1)), (2, (2, 82, 0, 0, 0)), (1, (0, 0, 0, 9, x1)), (0, (2, 60, 0, 0, 0))] _ _ (xa_subI rfl rfl (fun _ _ _ _ => by omega) (xa_subR rfl (xa_subI rfl rfl (fun _ _ _ _ => by omega) (xa_subR rfl xa_sub0)))) ?_
          exact ih6 (x4 + 1) M1 (by omega) hc (by first | omega | (simp [xa_up]; done) | (simp [xa_up]; omega)) (by first | exact hwy | (intro i i0 i1; have h0 := h32; omega)) (hD9e ▸ hD) ⟨by omega, wv_Wn b4.1 hW9.2 c2⟩ (by omega)
  have loop4 : ∀ (n : Nat) (x3 : Int) (M1 : xa_M), 0 ≤ x3 ∧ x3 ≤ 9 → xm_cor M M1 → xw_G M x1 M1 → M1 60 29 + M1 78 x3 ≤ 10 → M1 60 32 = 0 → 0 ≤ M1 78 x3 → wv_P M x1 M1 x3 → M1 78 x3 < (n : Int) → Q 194 [(3, (0, 0, 0, 9, x3)), (2, (2, 82, 0, 0, 0)), (1, (0, 0, 0, 9, x1)), (0, (2, 60, 0, 0, 0))] [] M1 := by
    intro n
    induction n with
    | zero => intro x3 M1 b3 hc hG h29 h32 h78 hP hms; clear hP; omega
    | succ n ih4 =>
      intro x3 M1 b3 hc hG h29 h32 h78 hP hms4
      obtain ⟨hP9, hP9e⟩ : ∃ P : Prop, P = wv_P M x1 M1 x3 := ⟨_, rfl⟩
      rw [← hP9e] at hP
      refine hgo.2.2 _ _ _ _ (fun hM1 _ => ?_)
      have b29 := xm_f29 hM1
      have t78 := xm_t78 hM1 x3 (by omega) (by omega)
      have hgx := fun h : ¬ x3 = x1 => (hG.2.2 x3 (by omega) (by omega) (by omega)).2 h
      obtain ⟨e, he⟩ : ∃ e, e = M1 78 x3 := ⟨_, rfl⟩
      have loop5 : ∀ (n : Nat) (x5 x4 : Int) (M1 : xa_M), 0 ≤ x5 ∧ x5 ≤ 16 → (-1) ≤ x4 ∧ x4 ≤ 9 → xm_cor M M1 → xw_G M x1 M1 → M1 78 x3 = e → M1 60 32 = 0 → (x4 = -1 → M1 60 29 + M1 78 x3 ≤ 10) → (0 ≤ x4 → M1 78 x4 = M1 78 x3 - 1 ∧ M1 60 29 + M1 78 x4 ≤ 10) → (x4 = -1 → xw_E M x3 M1 x5) → (x4 = -1 → wv_P M x1 M1 x3 ∧ ∀ i, 0 ≤ i → i < x5 → ¬ wp_c (M 64) (M 66) (M 67) (M1 78) x3 (M1 78 x3) i) → (0 ≤ x4 → wv_P M x1 M1 x4) → 16 - x5 < (n : Int) → Q 205 [(5, (0, 0, 0, 16, x5)), (4, (0, 0, (-1), 9, x4)), (3, (0, 0, 0, 9, x3)), (2, (2, 82, 0, 0, 0)), (1, (0, 0, 0, 9, x1)), (0, (2, 60, 0, 0, 0))] [] M1 := by
        intro n
        induction n with
        | zero => intro x5 x4 M1 b5 b4 hc hG hex h32 h29 hnx hE hPn hPy hms; clear hPn hPy; omega
        | succ n ih5 =>
          intro x5 x4 M1 b5 b4 hc hG hex h32 h29 hnx hE hPn hPy hms5
          obtain ⟨hPn9, hPn9e⟩ : ∃ P : Prop, P = (x4 = -1 → wv_P M x1 M1 x3 ∧ ∀ i, 0 ≤ i → i < x5 → ¬ wp_c (M 64) (M 66) (M 67) (M1 78) x3 (M1 78 x3) i) := ⟨_, rfl⟩
          rw [← hPn9e] at hPn
          obtain ⟨hPy9, hPy9e⟩ : ∃ P : Prop, P = wv_P M x1 M1 x4 := ⟨_, rfl⟩
          rw [← hPy9e] at hPy
          refine hgo.2.2 _ _ _ _ (fun hM1 _ => ?_)
          have b6 := xm_f6 hM1
          have e6 := xm_corf hc 6 (by omega)
          have e66 := xm_corq hc 66 rfl x5
          have e67 := xm_corq hc 67 rfl x5
          have eA : xw_A M x5 = M1 64 (M1 66 x5) := by rw [e66]; exact (xm_corq hc 64 rfl _).symm
          have eB : xw_B M x5 = M1 64 (M1 67 x5) := by rw [e67]; exact (xm_corq hc 64 rfl _).symm
          have hms := fun h : x5 < M1 60 6 => xm_msh hM1 (xm_Inv_cor hc hI) (by omega) h
          have b29 := xm_f29 hM1
          have t78 := xm_t78 hM1 x3 (by omega) (by omega)
          have t784 := fun h : 0 ≤ x4 => xm_t78 hM1 x4 h (by omega)
          have hEi := fun h : x4 = -1 => xw_E_i (hE h)
          have tA : x5 < M1 60 6 → 0 ≤ M1 78 (M1 64 (M1 66 x5)) := fun h => (xm_t78 hM1 _ (hms h).2.2.1.1 (by have := hms h; omega)).1
          have tB : x5 < M1 60 6 → 0 ≤ M1 78 (M1 64 (M1 67 x5)) := fun h => (xm_t78 hM1 _ (hms h).2.2.2.1.1 (by have := hms h; omega)).1
          have gA : M1 64 (M1 66 x5) = x3 → M1 78 (M1 64 (M1 66 x5)) = M1 78 x3 := fun h => by rw [h]
          have gB : M1 64 (M1 67 x5) = x3 → M1 78 (M1 64 (M1 67 x5)) = M1 78 x3 := fun h => by rw [h]
          have key381 : ∀ (x8 : Int) (M2 : xa_M), 0 ≤ x8 ∧ x8 ≤ 9 → M1 78 x8 = M1 78 x3 - 1 → x4 = -1 → x5 < M1 60 6 → xm_cor M M2 → (∀ j, M2 78 j = M1 78 j) → M2 60 29 = M1 60 29 → M2 60 32 = 0 → (∀ j, M2 79 j = M1 79 j) → (∃ dr dn, wp_S (M 60 6) (M 64) (M 66) (M 67) (M1 78) x3 (M1 78 x3) x5 dr dn ∧ x8 = M 64 dn ∧ (∀ w : Int, M2 82 w = M1 82 w + (if dr = w then 1 else 0) - (if dn = w then 1 else 0)) ∧ ∀ w : Int, (w = dr ∨ w = dn → M2 83 w = 1) ∧ (¬ (w = dr ∨ w = dn) → M2 83 w = M1 83 w)) → Q 381 [(8, (0, 0, 0, 9, x8)), (5, (0, 0, 0, 15, x5)), (3, (0, 0, 0, 9, x3)), (2, (2, 82, 0, 0, 0)), (1, (0, 0, 0, 9, x1)), (0, (2, 60, 0, 0, 0))] [] M2 := by
            intro x8 M2 h8 h788 h4 h5 hc2 hj2 h292 h322 hj79 hS
            have hNP : wv_P M x1 (xa_up (xa_up M2 79 (M2 60 29) x5) 60 29 ((M2 60 29) + 1)) x8 := by
              rw [hPn9e] at hPn
              obtain ⟨dr, dn, s1, s2, s3, s4⟩ := hS
              exact wv_P_s (hPn h4).1 b29.1 s1 s2 h788 (fun j => (xa_up_ne (fun e => absurd e.1 (by decide))).trans ((xa_up_ne (fun e => absurd e.1 (by decide))).trans (hj2 j))) (xa_up_eq.trans (by rw [h292])) ((xa_up_ne (fun e => absurd e.1 (by decide))).trans (by rw [← h292]; exact xa_up_eq)) (fun j hj => (xa_up_ne (fun e => absurd e.1 (by decide))).trans ((xa_up_ne (fun e => hj (e.2.trans h292))).trans (hj79 j))) (fun w => (xa_up_ne (fun e => absurd e.1 (by decide))).trans ((xa_up_ne (fun e => absurd e.1 (by decide))).trans (s3 w))) (fun w => ⟨fun q => (xa_up_ne (fun e => absurd e.1 (by decide))).trans ((xa_up_ne (fun e => absurd e.1 (by decide))).trans ((s4 w).1 q)), fun q => (xa_up_ne (fun e => absurd e.1 (by decide))).trans ((xa_up_ne (fun e => absurd e.1 (by decide))).trans ((s4 w).2 q))⟩)
            clear hS
            have hG2 := xw_G_j hj2 hG
            have j8 := hj2 x8
            have j3 := hj2 x3
            have t8 := (xm_t78 hM1 x8 (by omega) (by omega)).1
            refine hgo.1 21 [2, 33, 41, 169, 194, 205, 421, 349, 365, 381] 381 _ _ _ ?_
            refine And.intro (show 0 ≤ (M2 60 29) ∧ (M2 60 29) < 10 by omega) ?_
            refine And.intro (show 0 ≤ ((M2 60 29) + 1) ∧ ((M2 60 29) + 1) ≤ 10 by omega) ?_
            show Q 205 [(5, (0, 0, 1, 16, x5 + 1)), (4, (0, 0, 0, 9, x8)), (8, (0, 0, 0, 9, x8)), (3, (0, 0, 0, 9, x3)), (2, (2, 82, 0, 0, 0)), (1, (0, 0, 0, 9, x1)), (0, (2, 60, 0, 0, 0))] [] (xa_up (xa_up M2 79 (M2 60 29) x5) 60 29 ((M2 60 29) + 1))
            refine hgo.2.1 205 _ [(5, (0, 0, 0, 16, x5 + 1)), (4, (0, 0, (-1), 9, x8)), (3, (0, 0, 0, 9, x3)), (2, (2, 82, 0, 0, 0)), (1, (0, 0, 0, 9, x1)), (0, (2, 60, 0, 0, 0))] _ _ (xa_subI rfl rfl (fun _ _ _ _ => by omega) (xa_subI rfl rfl (fun _ _ _ _ => by omega) (xa_subI rfl rfl (fun _ _ _ _ => by omega) (xa_subR rfl (xa_subI rfl rfl (fun _ _ _ _ => by omega) (xa_subR rfl xa_sub0)))))) ?_
            exact ih5 (x5 + 1) x8 (xa_up (xa_up M2 79 (M2 60 29) x5) 60 29 ((M2 60 29) + 1)) (by omega) (by omega) (xm_cor_f (by omega) (xm_cor_a rfl hc2)) (by first | exact (xw_G_u (by decide) (xw_G_u (by decide) hG2)) | assumption) (by first | omega | (simp [xa_up]; done) | (simp [xa_up]; omega)) (by first | omega | (simp [xa_up]; done) | (simp [xa_up]; omega)) (by first | omega | (intro h; simp [xa_up]; omega)) (by first | omega | (intro h; simp [xa_up]; omega)) (fun h => by omega) (fun h => by omega) (fun _ => hNP) (by omega)
          have key365 : ∀ (x8 x9 x10 : Int) (M2 : xa_M), 0 ≤ x9 ∧ x9 ≤ 13 → 0 ≤ x10 ∧ x10 ≤ 13 → 0 ≤ x8 ∧ x8 ≤ 9 → M1 78 x8 = M1 78 x3 - 1 → x4 = -1 → x5 < M1 60 6 → xm_cor M M2 → (∀ j, M2 78 j = M1 78 j) → M2 60 29 = M1 60 29 → M2 60 32 = 0 → (∀ j, M2 79 j = M1 79 j) → (wp_S (M 60 6) (M 64) (M 66) (M 67) (M1 78) x3 (M1 78 x3) x5 x9 x10 ∧ x8 = M 64 x10 ∧ (∀ w : Int, M2 82 w = M1 82 w + (if x9 = w then 1 else 0) - (if x10 = w then 1 else 0)) ∧ ∀ w : Int, M2 83 w = M1 83 w) → Q 365 [(10, (0, 0, 0, 13, x10)), (9, (0, 0, 0, 13, x9)), (8, (0, 0, 0, 9, x8)), (5, (0, 0, 0, 15, x5)), (3, (0, 0, 0, 9, x3)), (2, (2, 82, 0, 0, 0)), (1, (0, 0, 0, 9, x1)), (0, (2, 60, 0, 0, 0))] [] M2 := by
            intro x8 x9 x10 M2 h9 h10 h8 h788 h4 h5 hc2 hj2 h292 h322 hj79 hS
            refine hgo.1 15 [2, 33, 41, 169, 194, 205, 421, 349, 365, 381] 365 _ _ _ ?_
            show Q 381 [(10, (0, 0, 0, 13, x10)), (9, (0, 0, 0, 13, x9)), (8, (0, 0, 0, 9, x8)), (5, (0, 0, 0, 15, x5)), (3, (0, 0, 0, 9, x3)), (2, (2, 82, 0, 0, 0)), (1, (0, 0, 0, 9, x1)), (0, (2, 60, 0, 0, 0))] [] (xa_up (xa_up M2 83 x9 1) 83 x10 1)
            refine hgo.2.1 381 _ [(8, (0, 0, 0, 9, x8)), (5, (0, 0, 0, 15, x5)), (3, (0, 0, 0, 9, x3)), (2, (2, 82, 0, 0, 0)), (1, (0, 0, 0, 9, x1)), (0, (2, 60, 0, 0, 0))] _ _ (xa_subI rfl rfl (fun _ _ _ _ => by omega) (xa_subI rfl rfl (fun _ _ _ _ => by omega) (xa_subI rfl rfl (fun _ _ _ _ => by omega) (xa_subR rfl (xa_subI rfl rfl (fun _ _ _ _ => by omega) (xa_subR rfl xa_sub0)))))) ?_
            exact key381 x8 (xa_up (xa_up M2 83 x9 1) 83 x10 1) h8 h788 h4 h5 (xm_cor_a rfl (xm_cor_a rfl hc2)) (fun j => by simp [xa_up, hj2]) (by simp [xa_up, h292]) (by simp [xa_up, h322]) (fun j => by simp [xa_up, hj79]) ⟨x9, x10, hS.1, hS.2.1, fun w => (xa_up_ne (fun e => absurd e.1 (by decide))).trans ((xa_up_ne (fun e => absurd e.1 (by decide))).trans (hS.2.2.1 w)), fun w => ⟨fun q => by
              by_cases e : w = x10
              · rw [e]
                exact xa_up_eq
              · rw [xa_up_ne (fun h => e h.2), show w = x9 by omega]
                exact xa_up_eq, fun q => (xa_up_ne (fun h => q (Or.inr h.2))).trans ((xa_up_ne (fun h => q (Or.inl h.2))).trans (hS.2.2.2 w))⟩⟩
          have key349 : ∀ (x8 x9 x10 : Int), 0 ≤ x9 ∧ x9 ≤ 13 → 0 ≤ x10 ∧ x10 ≤ 13 → 0 ≤ x8 ∧ x8 ≤ 9 → M1 78 x8 = M1 78 x3 - 1 → x4 = -1 → x5 < M1 60 6 → (wp_S (M 60 6) (M 64) (M 66) (M 67) (M1 78) x3 (M1 78 x3) x5 x9 x10 ∧ x8 = M 64 x10) → Q 349 [(10, (0, 0, 0, 13, x10)), (9, (0, 0, 0, 13, x9)), (8, (0, 0, 0, 9, x8)), (5, (0, 0, 0, 15, x5)), (3, (0, 0, 0, 9, x3)), (2, (2, 82, 0, 0, 0)), (1, (0, 0, 0, 9, x1)), (0, (2, 60, 0, 0, 0))] [] M1 := by
            intro x8 x9 x10 h9 h10 h8 h788 h4 h5 hS
            refine hgo.1 19 [2, 33, 41, 169, 194, 205, 421, 349, 365, 381] 349 _ _ _ ?_
            show Q 365 [(10, (0, 0, 0, 13, x10)), (9, (0, 0, 0, 13, x9)), (8, (0, 0, 0, 9, x8)), (5, (0, 0, 0, 15, x5)), (3, (0, 0, 0, 9, x3)), (2, (2, 82, 0, 0, 0)), (1, (0, 0, 0, 9, x1)), (0, (2, 60, 0, 0, 0))] [] (xa_up (xa_up M1 82 x9 (xa_w32 ((M1 82 x9) + 1))) 82 x10 (xa_w32 (((xa_up M1 82 x9 (xa_w32 ((M1 82 x9) + 1))) 82 x10) - 1)))
            refine hgo.2.1 365 _ [(10, (0, 0, 0, 13, x10)), (9, (0, 0, 0, 13, x9)), (8, (0, 0, 0, 9, x8)), (5, (0, 0, 0, 15, x5)), (3, (0, 0, 0, 9, x3)), (2, (2, 82, 0, 0, 0)), (1, (0, 0, 0, 9, x1)), (0, (2, 60, 0, 0, 0))] _ _ (xa_subI rfl rfl (fun _ _ _ _ => by omega) (xa_subI rfl rfl (fun _ _ _ _ => by omega) (xa_subI rfl rfl (fun _ _ _ _ => by omega) (xa_subI rfl rfl (fun _ _ _ _ => by omega) (xa_subI rfl rfl (fun _ _ _ _ => by omega) (xa_subR rfl (xa_subI rfl rfl (fun _ _ _ _ => by omega) (xa_subR rfl xa_sub0)))))))) ?_
            have hb9 := wv_b (X := x1) (x := x3) ((by rw [hPn9e] at hPn; exact (hPn h4).1) : wv_P M x1 M1 x3) b29.1 (by omega)
            refine key365 x8 x9 x10 (xa_up (xa_up M1 82 x9 (xa_w32 ((M1 82 x9) + 1))) 82 x10 (xa_w32 (((xa_up M1 82 x9 (xa_w32 ((M1 82 x9) + 1))) 82 x10) - 1))) h9 h10 h8 h788 h4 h5 (xm_cor_a rfl (xm_cor_a rfl hc)) (fun j => by simp [xa_up]) (by simp [xa_up]) (by simp [xa_up, h32]) (fun j => by simp [xa_up]) ⟨hS.1, hS.2, fun w => ?_, fun w => (xa_up_ne (fun e => absurd e.1 (by decide))).trans (xa_up_ne (fun e => absurd e.1 (by decide)))⟩
            exact wv_82 (by omega) (by omega) hb9
          refine hgo.1 69 [2, 33, 41, 169, 194, 205, 421, 349, 365, 381] 205 _ _ _ ?_
          refine And.intro ?_ ?_
          · intro (c1 : (M1 60 6) ≤ x5)
            show Q 194 [(3, (0, 0, (-1), 9, x4)), (5, (0, 0, 0, 16, x5)), (4, (0, 0, (-1), 9, x4)), (2, (2, 82, 0, 0, 0)), (1, (0, 0, 0, 9, x1)), (0, (2, 60, 0, 0, 0))] [] M1
            refine hgo.2.1 194 _ [(3, (0, 0, 0, 9, x4)), (2, (2, 82, 0, 0, 0)), (1, (0, 0, 0, 9, x1)), (0, (2, 60, 0, 0, 0))] _ _ (xa_subI rfl rfl (fun _ _ _ _ => by omega) (xa_subR rfl (xa_subI rfl rfl (fun _ _ _ _ => by omega) (xa_subR rfl xa_sub0)))) ?_
            exact ih4 x4 M1 (by omega) hc (by first | exact hG | assumption) (by first | omega | (simp [xa_up]; done) | (simp [xa_up]; omega)) (by first | omega | (simp [xa_up]; done) | (simp [xa_up]; omega)) (by omega) (hPy9e ▸ hPy (by omega)) (by omega)
          · intro (c1 : x5 < (M1 60 6))
            refine And.intro ?_ ?_
            · intro (c2 : ¬ x4 = (-1))
              show Q 194 [(3, (0, 0, (-1), 9, x4)), (5, (0, 0, 0, 16, x5)), (4, (0, 0, (-1), 9, x4)), (2, (2, 82, 0, 0, 0)), (1, (0, 0, 0, 9, x1)), (0, (2, 60, 0, 0, 0))] [] M1
              refine hgo.2.1 194 _ [(3, (0, 0, 0, 9, x4)), (2, (2, 82, 0, 0, 0)), (1, (0, 0, 0, 9, x1)), (0, (2, 60, 0, 0, 0))] _ _ (xa_subI rfl rfl (fun _ _ _ _ => by omega) (xa_subR rfl (xa_subI rfl rfl (fun _ _ _ _ => by omega) (xa_subR rfl xa_sub0)))) ?_
              exact ih4 x4 M1 (by omega) hc (by first | exact hG | assumption) (by first | omega | (simp [xa_up]; done) | (simp [xa_up]; omega)) (by first | omega | (simp [xa_up]; done) | (simp [xa_up]; omega)) (by omega) (hPy9e ▸ hPy (by omega)) (by omega)
            · intro (c2 : x4 = (-1))
              refine And.intro (show 0 ≤ x5 ∧ x5 < 16 by omega) ?_
              refine And.intro (show 0 ≤ x5 ∧ x5 < 16 by omega) ?_
              refine And.intro ?_ ?_
              · intro (c3 : (M1 64 (M1 66 x5)) = x3)
                refine And.intro ?_ ?_
                · intro (c4 : ¬ (M1 64 (M1 66 x5)) = x3)
                  refine And.intro ?_ ?_
                  · intro (c5 : (M1 78 (M1 64 (M1 66 x5))) = ((M1 78 x3) - 1))
                    refine And.intro ?_ ?_
                    · intro (c6 : ¬ (M1 64 (M1 66 x5)) = x3)
                      refine And.intro (show 0 ≤ x5 ∧ x5 < 16 by omega) ?_
                      refine And.intro ?_ ?_
                      · intro (c7 : ¬ (M1 64 (M1 66 x5)) = x3)
                        refine And.intro (show 0 ≤ x5 ∧ x5 < 16 by omega) ?_
                        show Q 349 [(10, (0, 0, 0, 13, M1 66 x5)), (9, (0, 0, 0, 13, M1 67 x5)), (8, (0, 0, 0, 9, M1 64 (M1 66 x5))), (7, (0, 0, 0, 9, M1 64 (M1 67 x5))), (6, (0, 0, 0, 9, M1 64 (M1 66 x5))), (5, (0, 0, 0, 16, x5)), (4, (0, 0, (-1), 9, x4)), (3, (0, 0, 0, 9, x3)), (2, (2, 82, 0, 0, 0)), (1, (0, 0, 0, 9, x1)), (0, (2, 60, 0, 0, 0))] [] M1
                        refine hgo.2.1 349 _ [(10, (0, 0, 0, 13, M1 66 x5)), (9, (0, 0, 0, 13, M1 67 x5)), (8, (0, 0, 0, 9, M1 64 (M1 66 x5))), (5, (0, 0, 0, 15, x5)), (3, (0, 0, 0, 9, x3)), (2, (2, 82, 0, 0, 0)), (1, (0, 0, 0, 9, x1)), (0, (2, 60, 0, 0, 0))] _ _ (xa_subI rfl rfl (fun _ _ _ _ => by omega) (xa_subI rfl rfl (fun _ _ _ _ => by omega) (xa_subI rfl rfl (fun _ _ _ _ => by omega) (xa_subI rfl rfl (fun _ _ _ _ => by omega) (xa_subI rfl rfl (fun _ _ _ _ => by omega) (xa_subR rfl (xa_subI rfl rfl (fun _ _ _ _ => by omega) (xa_subR rfl xa_sub0)))))))) ?_
                        exact key349 (M1 64 (M1 66 x5)) (M1 67 x5) (M1 66 x5) (by omega) (by omega) (by omega) (by omega) (by omega) (by omega) ⟨wr_mk (x9 := (M1 67 x5)) (x10 := (M1 66 x5)) e66 e67 eA eB (by omega) ((hPn9e ▸ hPn) (by omega)).2 (by omega) (by omega), by first | exact xm_corq hc 64 rfl _ | omega⟩
                      · intro (c7 : (M1 64 (M1 66 x5)) = x3)
                        refine And.intro (show 0 ≤ x5 ∧ x5 < 16 by omega) ?_
                        show Q 349 [(10, (0, 0, 0, 13, M1 67 x5)), (9, (0, 0, 0, 13, M1 67 x5)), (8, (0, 0, 0, 9, M1 64 (M1 66 x5))), (7, (0, 0, 0, 9, M1 64 (M1 67 x5))), (6, (0, 0, 0, 9, M1 64 (M1 66 x5))), (5, (0, 0, 0, 16, x5)), (4, (0, 0, (-1), 9, x4)), (3, (0, 0, 0, 9, x3)), (2, (2, 82, 0, 0, 0)), (1, (0, 0, 0, 9, x1)), (0, (2, 60, 0, 0, 0))] [] M1
                        refine hgo.2.1 349 _ [(10, (0, 0, 0, 13, M1 67 x5)), (9, (0, 0, 0, 13, M1 67 x5)), (8, (0, 0, 0, 9, M1 64 (M1 66 x5))), (5, (0, 0, 0, 15, x5)), (3, (0, 0, 0, 9, x3)), (2, (2, 82, 0, 0, 0)), (1, (0, 0, 0, 9, x1)), (0, (2, 60, 0, 0, 0))] _ _ (xa_subI rfl rfl (fun _ _ _ _ => by omega) (xa_subI rfl rfl (fun _ _ _ _ => by omega) (xa_subI rfl rfl (fun _ _ _ _ => by omega) (xa_subI rfl rfl (fun _ _ _ _ => by omega) (xa_subI rfl rfl (fun _ _ _ _ => by omega) (xa_subR rfl (xa_subI rfl rfl (fun _ _ _ _ => by omega) (xa_subR rfl xa_sub0)))))))) ?_
                        exact key349 (M1 64 (M1 66 x5)) (M1 67 x5) (M1 67 x5) (by omega) (by omega) (by omega) (by omega) (by omega) (by omega) ⟨wr_mk (x9 := (M1 67 x5)) (x10 := (M1 67 x5)) e66 e67 eA eB (by omega) ((hPn9e ▸ hPn) (by omega)).2 (by omega) (by omega), by first | exact xm_corq hc 64 rfl _ | omega⟩
                    · intro (c6 : (M1 64 (M1 66 x5)) = x3)
                      refine And.intro (show 0 ≤ x5 ∧ x5 < 16 by omega) ?_
                      refine And.intro ?_ ?_
                      · intro (c8 : ¬ (M1 64 (M1 66 x5)) = x3)
                        refine And.intro (show 0 ≤ x5 ∧ x5 < 16 by omega) ?_
                        show Q 349 [(10, (0, 0, 0, 13, M1 66 x5)), (9, (0, 0, 0, 13, M1 66 x5)), (8, (0, 0, 0, 9, M1 64 (M1 66 x5))), (7, (0, 0, 0, 9, M1 64 (M1 67 x5))), (6, (0, 0, 0, 9, M1 64 (M1 66 x5))), (5, (0, 0, 0, 16, x5)), (4, (0, 0, (-1), 9, x4)), (3, (0, 0, 0, 9, x3)), (2, (2, 82, 0, 0, 0)), (1, (0, 0, 0, 9, x1)), (0, (2, 60, 0, 0, 0))] [] M1
                        refine hgo.2.1 349 _ [(10, (0, 0, 0, 13, M1 66 x5)), (9, (0, 0, 0, 13, M1 66 x5)), (8, (0, 0, 0, 9, M1 64 (M1 66 x5))), (5, (0, 0, 0, 15, x5)), (3, (0, 0, 0, 9, x3)), (2, (2, 82, 0, 0, 0)), (1, (0, 0, 0, 9, x1)), (0, (2, 60, 0, 0, 0))] _ _ (xa_subI rfl rfl (fun _ _ _ _ => by omega) (xa_subI rfl rfl (fun _ _ _ _ => by omega) (xa_subI rfl rfl (fun _ _ _ _ => by omega) (xa_subI rfl rfl (fun _ _ _ _ => by omega) (xa_subI rfl rfl (fun _ _ _ _ => by omega) (xa_subR rfl (xa_subI rfl rfl (fun _ _ _ _ => by omega) (xa_subR rfl xa_sub0)))))))) ?_
                        exact key349 (M1 64 (M1 66 x5)) (M1 66 x5) (M1 66 x5) (by omega) (by omega) (by omega) (by omega) (by omega) (by omega) ⟨wr_mk (x9 := (M1 66 x5)) (x10 := (M1 66 x5)) e66 e67 eA eB (by omega) ((hPn9e ▸ hPn) (by omega)).2 (by omega) (by omega), by first | exact xm_corq hc 64 rfl _ | omega⟩
                      · intro (c8 : (M1 64 (M1 66 x5)) = x3)
                        refine And.intro (show 0 ≤ x5 ∧ x5 < 16 by omega) ?_
                        show Q 349 [(10, (0, 0, 0, 13, M1 67 x5)), (9, (0, 0, 0, 13, M1 66 x5)), (8, (0, 0, 0, 9, M1 64 (M1 66 x5))), (7, (0, 0, 0, 9, M1 64 (M1 67 x5))), (6, (0, 0, 0, 9, M1 64 (M1 66 x5))), (5, (0, 0, 0, 16, x5)), (4, (0, 0, (-1), 9, x4)), (3, (0, 0, 0, 9, x3)), (2, (2, 82, 0, 0, 0)), (1, (0, 0, 0, 9, x1)), (0, (2, 60, 0, 0, 0))] [] M1
                        refine hgo.2.1 349 _ [(10, (0, 0, 0, 13, M1 67 x5)), (9, (0, 0, 0, 13, M1 66 x5)), (8, (0, 0, 0, 9, M1 64 (M1 66 x5))), (5, (0, 0, 0, 15, x5)), (3, (0, 0, 0, 9, x3)), (2, (2, 82, 0, 0, 0)), (1, (0, 0, 0, 9, x1)), (0, (2, 60, 0, 0, 0))] _ _ (xa_subI rfl rfl (fun _ _ _ _ => by omega) (xa_subI rfl rfl (fun _ _ _ _ => by omega) (xa_subI rfl rfl (fun _ _ _ _ => by omega) (xa_subI rfl rfl (fun _ _ _ _ => by omega) (xa_subI rfl rfl (fun _ _ _ _ => by omega) (xa_subR rfl (xa_subI rfl rfl (fun _ _ _ _ => by omega) (xa_subR rfl xa_sub0)))))))) ?_
                        exact key349 (M1 64 (M1 66 x5)) (M1 66 x5) (M1 67 x5) (by omega) (by omega) (by omega) (by omega) (by omega) (by omega) ⟨wr_mk (x9 := (M1 66 x5)) (x10 := (M1 67 x5)) e66 e67 eA eB (by omega) ((hPn9e ▸ hPn) (by omega)).2 (by omega) (by omega), by first | exact xm_corq hc 64 rfl _ | omega⟩
                  · intro (c5 : ¬ (M1 78 (M1 64 (M1 66 x5))) = ((M1 78 x3) - 1))
                    show Q 205 [(5, (0, 0, 1, 17, x5 + 1)), (8, (0, 0, 0, 9, M1 64 (M1 66 x5))), (7, (0, 0, 0, 9, M1 64 (M1 67 x5))), (6, (0, 0, 0, 9, M1 64 (M1 66 x5))), (4, (0, 0, (-1), 9, x4)), (3, (0, 0, 0, 9, x3)), (2, (2, 82, 0, 0, 0)), (1, (0, 0, 0, 9, x1)), (0, (2, 60, 0, 0, 0))] [] M1
                    refine hgo.2.1 205 _ [(5, (0, 0, 0, 16, x5 + 1)), (4, (0, 0, (-1), 9, x4)), (3, (0, 0, 0, 9, x3)), (2, (2, 82, 0, 0, 0)), (1, (0, 0, 0, 9, x1)), (0, (2, 60, 0, 0, 0))] _ _ (xa_subI rfl rfl (fun _ _ _ _ => by omega) (xa_subI rfl rfl (fun _ _ _ _ => by omega) (xa_subI rfl rfl (fun _ _ _ _ => by omega) (xa_subR rfl (xa_subI rfl rfl (fun _ _ _ _ => by omega) (xa_subR rfl xa_sub0)))))) ?_
                    have hno9 : ¬ wp_c (M 64) (M 66) (M 67) (M1 78) x3 (M1 78 x3) x5 := by
                      show ¬ ((xw_A M x5 = x3 ∧ M1 78 (xw_B M x5) = M1 78 x3 - 1) ∨ (xw_B M x5 = x3 ∧ M1 78 (xw_A M x5) = M1 78 x3 - 1))
                      rw [eA, eB]
                      omega
                    exact ih5 (x5 + 1) x4 M1 (by omega) (by omega) hc (by first | exact hG | assumption) (by first | omega | (simp [xa_up]; done) | (simp [xa_up]; omega)) (by first | omega | (simp [xa_up]; done) | (simp [xa_up]; omega)) (by first | omega | (intro h; simp [xa_up]; omega)) (by first | omega | (intro h; simp [xa_up]; omega)) (fun h => xw_E_n (hE h) (by rw [eA, eB]; omega)) (fun h => by rw [hPn9e] at hPn; exact ⟨(hPn h).1, fun i i0 i1 => by
                        by_cases e : i = x5
                        · rw [e]
                          exact hno9
                        · exact (hPn h).2 i i0 (by omega)⟩) (fun h => by omega) (by omega)
                · intro (c4 : (M1 64 (M1 66 x5)) = x3)
                  refine And.intro ?_ ?_
                  · intro (c9 : (M1 78 (M1 64 (M1 67 x5))) = ((M1 78 x3) - 1))
                    refine And.intro ?_ ?_
                    · intro (c10 : ¬ (M1 64 (M1 66 x5)) = x3)
                      refine And.intro (show 0 ≤ x5 ∧ x5 < 16 by omega) ?_
                      refine And.intro ?_ ?_
                      · intro (c11 : ¬ (M1 64 (M1 66 x5)) = x3)
                        refine And.intro (show 0 ≤ x5 ∧ x5 < 16 by omega) ?_
                        show Q 349 [(10, (0, 0, 0, 13, M1 66 x5)), (9, (0, 0, 0, 13, M1 67 x5)), (8, (0, 0, 0, 9, M1 64 (M1 67 x5))), (7, (0, 0, 0, 9, M1 64 (M1 67 x5))), (6, (0, 0, 0, 9, M1 64 (M1 66 x5))), (5, (0, 0, 0, 16, x5)), (4, (0, 0, (-1), 9, x4)), (3, (0, 0, 0, 9, x3)), (2, (2, 82, 0, 0, 0)), (1, (0, 0, 0, 9, x1)), (0, (2, 60, 0, 0, 0))] [] M1
                        refine hgo.2.1 349 _ [(10, (0, 0, 0, 13, M1 66 x5)), (9, (0, 0, 0, 13, M1 67 x5)), (8, (0, 0, 0, 9, M1 64 (M1 67 x5))), (5, (0, 0, 0, 15, x5)), (3, (0, 0, 0, 9, x3)), (2, (2, 82, 0, 0, 0)), (1, (0, 0, 0, 9, x1)), (0, (2, 60, 0, 0, 0))] _ _ (xa_subI rfl rfl (fun _ _ _ _ => by omega) (xa_subI rfl rfl (fun _ _ _ _ => by omega) (xa_subI rfl rfl (fun _ _ _ _ => by omega) (xa_subI rfl rfl (fun _ _ _ _ => by omega) (xa_subI rfl rfl (fun _ _ _ _ => by omega) (xa_subR rfl (xa_subI rfl rfl (fun _ _ _ _ => by omega) (xa_subR rfl xa_sub0)))))))) ?_
                        exact key349 (M1 64 (M1 67 x5)) (M1 67 x5) (M1 66 x5) (by omega) (by omega) (by omega) (by omega) (by omega) (by omega) ⟨wr_mk (x9 := (M1 67 x5)) (x10 := (M1 66 x5)) e66 e67 eA eB (by omega) ((hPn9e ▸ hPn) (by omega)).2 (by omega) (by omega), by first | exact xm_corq hc 64 rfl _ | omega⟩
                      · intro (c11 : (M1 64 (M1 66 x5)) = x3)
                        refine And.intro (show 0 ≤ x5 ∧ x5 < 16 by omega) ?_
                        show Q 349 [(10, (0, 0, 0, 13, M1 67 x5)), (9, (0, 0, 0, 13, M1 67 x5)), (8, (0, 0, 0, 9, M1 64 (M1 67 x5))), (7, (0, 0, 0, 9, M1 64 (M1 67 x5))), (6, (0, 0, 0, 9, M1 64 (M1 66 x5))), (5, (0, 0, 0, 16, x5)), (4, (0, 0, (-1), 9, x4)), (3, (0, 0, 0, 9, x3)), (2, (2, 82, 0, 0, 0)), (1, (0, 0, 0, 9, x1)), (0, (2, 60, 0, 0, 0))] [] M1
                        refine hgo.2.1 349 _ [(10, (0, 0, 0, 13, M1 67 x5)), (9, (0, 0, 0, 13, M1 67 x5)), (8, (0, 0, 0, 9, M1 64 (M1 67 x5))), (5, (0, 0, 0, 15, x5)), (3, (0, 0, 0, 9, x3)), (2, (2, 82, 0, 0, 0)), (1, (0, 0, 0, 9, x1)), (0, (2, 60, 0, 0, 0))] _ _ (xa_subI rfl rfl (fun _ _ _ _ => by omega) (xa_subI rfl rfl (fun _ _ _ _ => by omega) (xa_subI rfl rfl (fun _ _ _ _ => by omega) (xa_subI rfl rfl (fun _ _ _ _ => by omega) (xa_subI rfl rfl (fun _ _ _ _ => by omega) (xa_subR rfl (xa_subI rfl rfl (fun _ _ _ _ => by omega) (xa_subR rfl xa_sub0)))))))) ?_
                        exact key349 (M1 64 (M1 67 x5)) (M1 67 x5) (M1 67 x5) (by omega) (by omega) (by omega) (by omega) (by omega) (by omega) ⟨wr_mk (x9 := (M1 67 x5)) (x10 := (M1 67 x5)) e66 e67 eA eB (by omega) ((hPn9e ▸ hPn) (by omega)).2 (by omega) (by omega), by first | exact xm_corq hc 64 rfl _ | omega⟩
                    · intro (c10 : (M1 64 (M1 66 x5)) = x3)
                      refine And.intro (show 0 ≤ x5 ∧ x5 < 16 by omega) ?_
                      refine And.intro ?_ ?_
                      · intro (c12 : ¬ (M1 64 (M1 66 x5)) = x3)
                        refine And.intro (show 0 ≤ x5 ∧ x5 < 16 by omega) ?_
                        show Q 349 [(10, (0, 0, 0, 13, M1 66 x5)), (9, (0, 0, 0, 13, M1 66 x5)), (8, (0, 0, 0, 9, M1 64 (M1 67 x5))), (7, (0, 0, 0, 9, M1 64 (M1 67 x5))), (6, (0, 0, 0, 9, M1 64 (M1 66 x5))), (5, (0, 0, 0, 16, x5)), (4, (0, 0, (-1), 9, x4)), (3, (0, 0, 0, 9, x3)), (2, (2, 82, 0, 0, 0)), (1, (0, 0, 0, 9, x1)), (0, (2, 60, 0, 0, 0))] [] M1
                        refine hgo.2.1 349 _ [(10, (0, 0, 0, 13, M1 66 x5)), (9, (0, 0, 0, 13, M1 66 x5)), (8, (0, 0, 0, 9, M1 64 (M1 67 x5))), (5, (0, 0, 0, 15, x5)), (3, (0, 0, 0, 9, x3)), (2, (2, 82, 0, 0, 0)), (1, (0, 0, 0, 9, x1)), (0, (2, 60, 0, 0, 0))] _ _ (xa_subI rfl rfl (fun _ _ _ _ => by omega) (xa_subI rfl rfl (fun _ _ _ _ => by omega) (xa_subI rfl rfl (fun _ _ _ _ => by omega) (xa_subI rfl rfl (fun _ _ _ _ => by omega) (xa_subI rfl rfl (fun _ _ _ _ => by omega) (xa_subR rfl (xa_subI rfl rfl (fun _ _ _ _ => by omega) (xa_subR rfl xa_sub0)))))))) ?_
                        exact key349 (M1 64 (M1 67 x5)) (M1 66 x5) (M1 66 x5) (by omega) (by omega) (by omega) (by omega) (by omega) (by omega) ⟨wr_mk (x9 := (M1 66 x5)) (x10 := (M1 66 x5)) e66 e67 eA eB (by omega) ((hPn9e ▸ hPn) (by omega)).2 (by omega) (by omega), by first | exact xm_corq hc 64 rfl _ | omega⟩
                      · intro (c12 : (M1 64 (M1 66 x5)) = x3)
                        refine And.intro (show 0 ≤ x5 ∧ x5 < 16 by omega) ?_
                        show Q 349 [(10, (0, 0, 0, 13, M1 67 x5)), (9, (0, 0, 0, 13, M1 66 x5)), (8, (0, 0, 0, 9, M1 64 (M1 67 x5))), (7, (0, 0, 0, 9, M1 64 (M1 67 x5))), (6, (0, 0, 0, 9, M1 64 (M1 66 x5))), (5, (0, 0, 0, 16, x5)), (4, (0, 0, (-1), 9, x4)), (3, (0, 0, 0, 9, x3)), (2, (2, 82, 0, 0, 0)), (1, (0, 0, 0, 9, x1)), (0, (2, 60, 0, 0, 0))] [] M1
                        refine hgo.2.1 349 _ [(10, (0, 0, 0, 13, M1 67 x5)), (9, (0, 0, 0, 13, M1 66 x5)), (8, (0, 0, 0, 9, M1 64 (M1 67 x5))), (5, (0, 0, 0, 15, x5)), (3, (0, 0, 0, 9, x3)), (2, (2, 82, 0, 0, 0)), (1, (0, 0, 0, 9, x1)), (0, (2, 60, 0, 0, 0))] _ _ (xa_subI rfl rfl (fun _ _ _ _ => by omega) (xa_subI rfl rfl (fun _ _ _ _ => by omega) (xa_subI rfl rfl (fun _ _ _ _ => by omega) (xa_subI rfl rfl (fun _ _ _ _ => by omega) (xa_subI rfl rfl (fun _ _ _ _ => by omega) (xa_subR rfl (xa_subI rfl rfl (fun _ _ _ _ => by omega) (xa_subR rfl xa_sub0)))))))) ?_
                        exact key349 (M1 64 (M1 67 x5)) (M1 66 x5) (M1 67 x5) (by omega) (by omega) (by omega) (by omega) (by omega) (by omega) ⟨wr_mk (x9 := (M1 66 x5)) (x10 := (M1 67 x5)) e66 e67 eA eB (by omega) ((hPn9e ▸ hPn) (by omega)).2 (by omega) (by omega), by first | exact xm_corq hc 64 rfl _ | omega⟩
                  · intro (c9 : ¬ (M1 78 (M1 64 (M1 67 x5))) = ((M1 78 x3) - 1))
                    show Q 205 [(5, (0, 0, 1, 17, x5 + 1)), (8, (0, 0, 0, 9, M1 64 (M1 67 x5))), (7, (0, 0, 0, 9, M1 64 (M1 67 x5))), (6, (0, 0, 0, 9, M1 64 (M1 66 x5))), (4, (0, 0, (-1), 9, x4)), (3, (0, 0, 0, 9, x3)), (2, (2, 82, 0, 0, 0)), (1, (0, 0, 0, 9, x1)), (0, (2, 60, 0, 0, 0))] [] M1
                    refine hgo.2.1 205 _ [(5, (0, 0, 0, 16, x5 + 1)), (4, (0, 0, (-1), 9, x4)), (3, (0, 0, 0, 9, x3)), (2, (2, 82, 0, 0, 0)), (1, (0, 0, 0, 9, x1)), (0, (2, 60, 0, 0, 0))] _ _ (xa_subI rfl rfl (fun _ _ _ _ => by omega) (xa_subI rfl rfl (fun _ _ _ _ => by omega) (xa_subI rfl rfl (fun _ _ _ _ => by omega) (xa_subR rfl (xa_subI rfl rfl (fun _ _ _ _ => by omega) (xa_subR rfl xa_sub0)))))) ?_
                    have hno9 : ¬ wp_c (M 64) (M 66) (M 67) (M1 78) x3 (M1 78 x3) x5 := by
                      show ¬ ((xw_A M x5 = x3 ∧ M1 78 (xw_B M x5) = M1 78 x3 - 1) ∨ (xw_B M x5 = x3 ∧ M1 78 (xw_A M x5) = M1 78 x3 - 1))
                      rw [eA, eB]
                      omega
                    exact ih5 (x5 + 1) x4 M1 (by omega) (by omega) hc (by first | exact hG | assumption) (by first | omega | (simp [xa_up]; done) | (simp [xa_up]; omega)) (by first | omega | (simp [xa_up]; done) | (simp [xa_up]; omega)) (by first | omega | (intro h; simp [xa_up]; omega)) (by first | omega | (intro h; simp [xa_up]; omega)) (fun h => xw_E_n (hE h) (by rw [eA, eB]; omega)) (fun h => by rw [hPn9e] at hPn; exact ⟨(hPn h).1, fun i i0 i1 => by
                        by_cases e : i = x5
                        · rw [e]
                          exact hno9
                        · exact (hPn h).2 i i0 (by omega)⟩) (fun h => by omega) (by omega)
              · intro (c3 : ¬ (M1 64 (M1 66 x5)) = x3)
                refine And.intro ?_ ?_
                · intro (c13 : (M1 64 (M1 67 x5)) = x3)
                  refine And.intro ?_ ?_
                  · intro (c14 : ¬ (M1 64 (M1 66 x5)) = x3)
                    refine And.intro ?_ ?_
                    · intro (c15 : (M1 78 (M1 64 (M1 66 x5))) = ((M1 78 x3) - 1))
                      refine And.intro ?_ ?_
                      · intro (c16 : ¬ (M1 64 (M1 66 x5)) = x3)
                        refine And.intro (show 0 ≤ x5 ∧ x5 < 16 by omega) ?_
                        refine And.intro ?_ ?_
                        · intro (c17 : ¬ (M1 64 (M1 66 x5)) = x3)
                          refine And.intro (show 0 ≤ x5 ∧ x5 < 16 by omega) ?_
                          show Q 349 [(10, (0, 0, 0, 13, M1 66 x5)), (9, (0, 0, 0, 13, M1 67 x5)), (8, (0, 0, 0, 9, M1 64 (M1 66 x5))), (7, (0, 0, 0, 9, M1 64 (M1 67 x5))), (6, (0, 0, 0, 9, M1 64 (M1 66 x5))), (5, (0, 0, 0, 16, x5)), (4, (0, 0, (-1), 9, x4)), (3, (0, 0, 0, 9, x3)), (2, (2, 82, 0, 0, 0)), (1, (0, 0, 0, 9, x1)), (0, (2, 60, 0, 0, 0))] [] M1
                          refine hgo.2.1 349 _ [(10, (0, 0, 0, 13, M1 66 x5)), (9, (0, 0, 0, 13, M1 67 x5)), (8, (0, 0, 0, 9, M1 64 (M1 66 x5))), (5, (0, 0, 0, 15, x5)), (3, (0, 0, 0, 9, x3)), (2, (2, 82, 0, 0, 0)), (1, (0, 0, 0, 9, x1)), (0, (2, 60, 0, 0, 0))] _ _ (xa_subI rfl rfl (fun _ _ _ _ => by omega) (xa_subI rfl rfl (fun _ _ _ _ => by omega) (xa_subI rfl rfl (fun _ _ _ _ => by omega) (xa_subI rfl rfl (fun _ _ _ _ => by omega) (xa_subI rfl rfl (fun _ _ _ _ => by omega) (xa_subR rfl (xa_subI rfl rfl (fun _ _ _ _ => by omega) (xa_subR rfl xa_sub0)))))))) ?_
                          exact key349 (M1 64 (M1 66 x5)) (M1 67 x5) (M1 66 x5) (by omega) (by omega) (by omega) (by omega) (by omega) (by omega) ⟨wr_mk (x9 := (M1 67 x5)) (x10 := (M1 66 x5)) e66 e67 eA eB (by omega) ((hPn9e ▸ hPn) (by omega)).2 (by omega) (by omega), by first | exact xm_corq hc 64 rfl _ | omega⟩
                        · intro (c17 : (M1 64 (M1 66 x5)) = x3)
                          refine And.intro (show 0 ≤ x5 ∧ x5 < 16 by omega) ?_
                          show Q 349 [(10, (0, 0, 0, 13, M1 67 x5)), (9, (0, 0, 0, 13, M1 67 x5)), (8, (0, 0, 0, 9, M1 64 (M1 66 x5))), (7, (0, 0, 0, 9, M1 64 (M1 67 x5))), (6, (0, 0, 0, 9, M1 64 (M1 66 x5))), (5, (0, 0, 0, 16, x5)), (4, (0, 0, (-1), 9, x4)), (3, (0, 0, 0, 9, x3)), (2, (2, 82, 0, 0, 0)), (1, (0, 0, 0, 9, x1)), (0, (2, 60, 0, 0, 0))] [] M1
                          refine hgo.2.1 349 _ [(10, (0, 0, 0, 13, M1 67 x5)), (9, (0, 0, 0, 13, M1 67 x5)), (8, (0, 0, 0, 9, M1 64 (M1 66 x5))), (5, (0, 0, 0, 15, x5)), (3, (0, 0, 0, 9, x3)), (2, (2, 82, 0, 0, 0)), (1, (0, 0, 0, 9, x1)), (0, (2, 60, 0, 0, 0))] _ _ (xa_subI rfl rfl (fun _ _ _ _ => by omega) (xa_subI rfl rfl (fun _ _ _ _ => by omega) (xa_subI rfl rfl (fun _ _ _ _ => by omega) (xa_subI rfl rfl (fun _ _ _ _ => by omega) (xa_subI rfl rfl (fun _ _ _ _ => by omega) (xa_subR rfl (xa_subI rfl rfl (fun _ _ _ _ => by omega) (xa_subR rfl xa_sub0)))))))) ?_
                          exact key349 (M1 64 (M1 66 x5)) (M1 67 x5) (M1 67 x5) (by omega) (by omega) (by omega) (by omega) (by omega) (by omega) ⟨wr_mk (x9 := (M1 67 x5)) (x10 := (M1 67 x5)) e66 e67 eA eB (by omega) ((hPn9e ▸ hPn) (by omega)).2 (by omega) (by omega), by first | exact xm_corq hc 64 rfl _ | omega⟩
                      · intro (c16 : (M1 64 (M1 66 x5)) = x3)
                        refine And.intro (show 0 ≤ x5 ∧ x5 < 16 by omega) ?_
                        refine And.intro ?_ ?_
                        · intro (c18 : ¬ (M1 64 (M1 66 x5)) = x3)
                          refine And.intro (show 0 ≤ x5 ∧ x5 < 16 by omega) ?_
                          show Q 349 [(10, (0, 0, 0, 13, M1 66 x5)), (9, (0, 0, 0, 13, M1 66 x5)), (8, (0, 0, 0, 9, M1 64 (M1 66 x5))), (7, (0, 0, 0, 9, M1 64 (M1 67 x5))), (6, (0, 0, 0, 9, M1 64 (M1 66 x5))), (5, (0, 0, 0, 16, x5)), (4, (0, 0, (-1), 9, x4)), (3, (0, 0, 0, 9, x3)), (2, (2, 82, 0, 0, 0)), (1, (0, 0, 0, 9, x1)), (0, (2, 60, 0, 0, 0))] [] M1
                          refine hgo.2.1 349 _ [(10, (0, 0, 0, 13, M1 66 x5)), (9, (0, 0, 0, 13, M1 66 x5)), (8, (0, 0, 0, 9, M1 64 (M1 66 x5))), (5, (0, 0, 0, 15, x5)), (3, (0, 0, 0, 9, x3)), (2, (2, 82, 0, 0, 0)), (1, (0, 0, 0, 9, x1)), (0, (2, 60, 0, 0, 0))] _ _ (xa_subI rfl rfl (fun _ _ _ _ => by omega) (xa_subI rfl rfl (fun _ _ _ _ => by omega) (xa_subI rfl rfl (fun _ _ _ _ => by omega) (xa_subI rfl rfl (fun _ _ _ _ => by omega) (xa_subI rfl rfl (fun _ _ _ _ => by omega) (xa_subR rfl (xa_subI rfl rfl (fun _ _ _ _ => by omega) (xa_subR rfl xa_sub0)))))))) ?_
                          exact key349 (M1 64 (M1 66 x5)) (M1 66 x5) (M1 66 x5) (by omega) (by omega) (by omega) (by omega) (by omega) (by omega) ⟨wr_mk (x9 := (M1 66 x5)) (x10 := (M1 66 x5)) e66 e67 eA eB (by omega) ((hPn9e ▸ hPn) (by omega)).2 (by omega) (by omega), by first | exact xm_corq hc 64 rfl _ | omega⟩
                        · intro (c18 : (M1 64 (M1 66 x5)) = x3)
                          refine And.intro (show 0 ≤ x5 ∧ x5 < 16 by omega) ?_
                          show Q 349 [(10, (0, 0, 0, 13, M1 67 x5)), (9, (0, 0, 0, 13, M1 66 x5)), (8, (0, 0, 0, 9, M1 64 (M1 66 x5))), (7, (0, 0, 0, 9, M1 64 (M1 67 x5))), (6, (0, 0, 0, 9, M1 64 (M1 66 x5))), (5, (0, 0, 0, 16, x5)), (4, (0, 0, (-1), 9, x4)), (3, (0, 0, 0, 9, x3)), (2, (2, 82, 0, 0, 0)), (1, (0, 0, 0, 9, x1)), (0, (2, 60, 0, 0, 0))] [] M1
                          refine hgo.2.1 349 _ [(10, (0, 0, 0, 13, M1 67 x5)), (9, (0, 0, 0, 13, M1 66 x5)), (8, (0, 0, 0, 9, M1 64 (M1 66 x5))), (5, (0, 0, 0, 15, x5)), (3, (0, 0, 0, 9, x3)), (2, (2, 82, 0, 0, 0)), (1, (0, 0, 0, 9, x1)), (0, (2, 60, 0, 0, 0))] _ _ (xa_subI rfl rfl (fun _ _ _ _ => by omega) (xa_subI rfl rfl (fun _ _ _ _ => by omega) (xa_subI rfl rfl (fun _ _ _ _ => by omega) (xa_subI rfl rfl (fun _ _ _ _ => by omega) (xa_subI rfl rfl (fun _ _ _ _ => by omega) (xa_subR rfl (xa_subI rfl rfl (fun _ _ _ _ => by omega) (xa_subR rfl xa_sub0)))))))) ?_
                          exact key349 (M1 64 (M1 66 x5)) (M1 66 x5) (M1 67 x5) (by omega) (by omega) (by omega) (by omega) (by omega) (by omega) ⟨wr_mk (x9 := (M1 66 x5)) (x10 := (M1 67 x5)) e66 e67 eA eB (by omega) ((hPn9e ▸ hPn) (by omega)).2 (by omega) (by omega), by first | exact xm_corq hc 64 rfl _ | omega⟩
                    · intro (c15 : ¬ (M1 78 (M1 64 (M1 66 x5))) = ((M1 78 x3) - 1))
                      show Q 205 [(5, (0, 0, 1, 17, x5 + 1)), (8, (0, 0, 0, 9, M1 64 (M1 66 x5))), (7, (0, 0, 0, 9, M1 64 (M1 67 x5))), (6, (0, 0, 0, 9, M1 64 (M1 66 x5))), (4, (0, 0, (-1), 9, x4)), (3, (0, 0, 0, 9, x3)), (2, (2, 82, 0, 0, 0)), (1, (0, 0, 0, 9, x1)), (0, (2, 60, 0, 0, 0))] [] M1
                      refine hgo.2.1 205 _ [(5, (0, 0, 0, 16, x5 + 1)), (4, (0, 0, (-1), 9, x4)), (3, (0, 0, 0, 9, x3)), (2, (2, 82, 0, 0, 0)), (1, (0, 0, 0, 9, x1)), (0, (2, 60, 0, 0, 0))] _ _ (xa_subI rfl rfl (fun _ _ _ _ => by omega) (xa_subI rfl rfl (fun _ _ _ _ => by omega) (xa_subI rfl rfl (fun _ _ _ _ => by omega) (xa_subR rfl (xa_subI rfl rfl (fun _ _ _ _ => by omega) (xa_subR rfl xa_sub0)))))) ?_
                      have hno9 : ¬ wp_c (M 64) (M 66) (M 67) (M1 78) x3 (M1 78 x3) x5 := by
                        show ¬ ((xw_A M x5 = x3 ∧ M1 78 (xw_B M x5) = M1 78 x3 - 1) ∨ (xw_B M x5 = x3 ∧ M1 78 (xw_A M x5) = M1 78 x3 - 1))
                        rw [eA, eB]
                        omega
                      exact ih5 (x5 + 1) x4 M1 (by omega) (by omega) hc (by first | exact hG | assumption) (by first | omega | (simp [xa_up]; done) | (simp [xa_up]; omega)) (by first | omega | (simp [xa_up]; done) | (simp [xa_up]; omega)) (by first | omega | (intro h; simp [xa_up]; omega)) (by first | omega | (intro h; simp [xa_up]; omega)) (fun h => xw_E_n (hE h) (by rw [eA, eB]; omega)) (fun h => by rw [hPn9e] at hPn; exact ⟨(hPn h).1, fun i i0 i1 => by
                          by_cases e : i = x5
                          · rw [e]
                            exact hno9
                          · exact (hPn h).2 i i0 (by omega)⟩) (fun h => by omega) (by omega)
                  · intro (c14 : (M1 64 (M1 66 x5)) = x3)
                    refine And.intro ?_ ?_
                    · intro (c19 : (M1 78 (M1 64 (M1 67 x5))) = ((M1 78 x3) - 1))
                      refine And.intro ?_ ?_
                      · intro (c20 : ¬ (M1 64 (M1 66 x5)) = x3)
                        refine And.intro (show 0 ≤ x5 ∧ x5 < 16 by omega) ?_
                        refine And.intro ?_ ?_
                        · intro (c21 : ¬ (M1 64 (M1 66 x5)) = x3)
                          refine And.intro (show 0 ≤ x5 ∧ x5 < 16 by omega) ?_
                          show Q 349 [(10, (0, 0, 0, 13, M1 66 x5)), (9, (0, 0, 0, 13, M1 67 x5)), (8, (0, 0, 0, 9, M1 64 (M1 67 x5))), (7, (0, 0, 0, 9, M1 64 (M1 67 x5))), (6, (0, 0, 0, 9, M1 64 (M1 66 x5))), (5, (0, 0, 0, 16, x5)), (4, (0, 0, (-1), 9, x4)), (3, (0, 0, 0, 9, x3)), (2, (2, 82, 0, 0, 0)), (1, (0, 0, 0, 9, x1)), (0, (2, 60, 0, 0, 0))] [] M1
                          refine hgo.2.1 349 _ [(10, (0, 0, 0, 13, M1 66 x5)), (9, (0, 0, 0, 13, M1 67 x5)), (8, (0, 0, 0, 9, M1 64 (M1 67 x5))), (5, (0, 0, 0, 15, x5)), (3, (0, 0, 0, 9, x3)), (2, (2, 82, 0, 0, 0)), (1, (0, 0, 0, 9, x1)), (0, (2, 60, 0, 0, 0))] _ _ (xa_subI rfl rfl (fun _ _ _ _ => by omega) (xa_subI rfl rfl (fun _ _ _ _ => by omega) (xa_subI rfl rfl (fun _ _ _ _ => by omega) (xa_subI rfl rfl (fun _ _ _ _ => by omega) (xa_subI rfl rfl (fun _ _ _ _ => by omega) (xa_subR rfl (xa_subI rfl rfl (fun _ _ _ _ => by omega) (xa_subR rfl xa_sub0)))))))) ?_
                          exact key349 (M1 64 (M1 67 x5)) (M1 67 x5) (M1 66 x5) (by omega) (by omega) (by omega) (by omega) (by omega) (by omega) ⟨wr_mk (x9 := (M1 67 x5)) (x10 := (M1 66 x5)) e66 e67 eA eB (by omega) ((hPn9e ▸ hPn) (by omega)).2 (by omega) (by omega), by first | exact xm_corq hc 64 rfl _ | omega⟩
                        · intro (c21 : (M1 64 (M1 66 x5)) = x3)
                          refine And.intro (show 0 ≤ x5 ∧ x5 < 16 by omega) ?_
                          show Q 349 [(10, (0, 0, 0, 13, M1 67 x5)), (9, (0, 0, 0, 13, M1 67 x5)), (8, (0, 0, 0, 9, M1 64 (M1 67 x5))), (7, (0, 0, 0, 9, M1 64 (M1 67 x5))), (6, (0, 0, 0, 9, M1 64 (M1 66 x5))), (5, (0, 0, 0, 16, x5)), (4, (0, 0, (-1), 9, x4)), (3, (0, 0, 0, 9, x3)), (2, (2, 82, 0, 0, 0)), (1, (0, 0, 0, 9, x1)), (0, (2, 60, 0, 0, 0))] [] M1
                          refine hgo.2.1 349 _ [(10, (0, 0, 0, 13, M1 67 x5)), (9, (0, 0, 0, 13, M1 67 x5)), (8, (0, 0, 0, 9, M1 64 (M1 67 x5))), (5, (0, 0, 0, 15, x5)), (3, (0, 0, 0, 9, x3)), (2, (2, 82, 0, 0, 0)), (1, (0, 0, 0, 9, x1)), (0, (2, 60, 0, 0, 0))] _ _ (xa_subI rfl rfl (fun _ _ _ _ => by omega) (xa_subI rfl rfl (fun _ _ _ _ => by omega) (xa_subI rfl rfl (fun _ _ _ _ => by omega) (xa_subI rfl rfl (fun _ _ _ _ => by omega) (xa_subI rfl rfl (fun _ _ _ _ => by omega) (xa_subR rfl (xa_subI rfl rfl (fun _ _ _ _ => by omega) (xa_subR rfl xa_sub0)))))))) ?_
                          exact key349 (M1 64 (M1 67 x5)) (M1 67 x5) (M1 67 x5) (by omega) (by omega) (by omega) (by omega) (by omega) (by omega) ⟨wr_mk (x9 := (M1 67 x5)) (x10 := (M1 67 x5)) e66 e67 eA eB (by omega) ((hPn9e ▸ hPn) (by omega)).2 (by omega) (by omega), by first | exact xm_corq hc 64 rfl _ | omega⟩
                      · intro (c20 : (M1 64 (M1 66 x5)) = x3)
                        refine And.intro (show 0 ≤ x5 ∧ x5 < 16 by omega) ?_
                        refine And.intro ?_ ?_
                        · intro (c22 : ¬ (M1 64 (M1 66 x5)) = x3)
                          refine And.intro (show 0 ≤ x5 ∧ x5 < 16 by omega) ?_
                          show Q 349 [(10, (0, 0, 0, 13, M1 66 x5)), (9, (0, 0, 0, 13, M1 66 x5)), (8, (0, 0, 0, 9, M1 64 (M1 67 x5))), (7, (0, 0, 0, 9, M1 64 (M1 67 x5))), (6, (0, 0, 0, 9, M1 64 (M1 66 x5))), (5, (0, 0, 0, 16, x5)), (4, (0, 0, (-1), 9, x4)), (3, (0, 0, 0, 9, x3)), (2, (2, 82, 0, 0, 0)), (1, (0, 0, 0, 9, x1)), (0, (2, 60, 0, 0, 0))] [] M1
                          refine hgo.2.1 349 _ [(10, (0, 0, 0, 13, M1 66 x5)), (9, (0, 0, 0, 13, M1 66 x5)), (8, (0, 0, 0, 9, M1 64 (M1 67 x5))), (5, (0, 0, 0, 15, x5)), (3, (0, 0, 0, 9, x3)), (2, (2, 82, 0, 0, 0)), (1, (0, 0, 0, 9, x1)), (0, (2, 60, 0, 0, 0))] _ _ (xa_subI rfl rfl (fun _ _ _ _ => by omega) (xa_subI rfl rfl (fun _ _ _ _ => by omega) (xa_subI rfl rfl (fun _ _ _ _ => by omega) (xa_subI rfl rfl (fun _ _ _ _ => by omega) (xa_subI rfl rfl (fun _ _ _ _ => by omega) (xa_subR rfl (xa_subI rfl rfl (fun _ _ _ _ => by omega) (xa_subR rfl xa_sub0)))))))) ?_
                          exact key349 (M1 64 (M1 67 x5)) (M1 66 x5) (M1 66 x5) (by omega) (by omega) (by omega) (by omega) (by omega) (by omega) ⟨wr_mk (x9 := (M1 66 x5)) (x10 := (M1 66 x5)) e66 e67 eA eB (by omega) ((hPn9e ▸ hPn) (by omega)).2 (by omega) (by omega), by first | exact xm_corq hc 64 rfl _ | omega⟩
                        · intro (c22 : (M1 64 (M1 66 x5)) = x3)
                          refine And.intro (show 0 ≤ x5 ∧ x5 < 16 by omega) ?_
                          show Q 349 [(10, (0, 0, 0, 13, M1 67 x5)), (9, (0, 0, 0, 13, M1 66 x5)), (8, (0, 0, 0, 9, M1 64 (M1 67 x5))), (7, (0, 0, 0, 9, M1 64 (M1 67 x5))), (6, (0, 0, 0, 9, M1 64 (M1 66 x5))), (5, (0, 0, 0, 16, x5)), (4, (0, 0, (-1), 9, x4)), (3, (0, 0, 0, 9, x3)), (2, (2, 82, 0, 0, 0)), (1, (0, 0, 0, 9, x1)), (0, (2, 60, 0, 0, 0))] [] M1
                          refine hgo.2.1 349 _ [(10, (0, 0, 0, 13, M1 67 x5)), (9, (0, 0, 0, 13, M1 66 x5)), (8, (0, 0, 0, 9, M1 64 (M1 67 x5))), (5, (0, 0, 0, 15, x5)), (3, (0, 0, 0, 9, x3)), (2, (2, 82, 0, 0, 0)), (1, (0, 0, 0, 9, x1)), (0, (2, 60, 0, 0, 0))] _ _ (xa_subI rfl rfl (fun _ _ _ _ => by omega) (xa_subI rfl rfl (fun _ _ _ _ => by omega) (xa_subI rfl rfl (fun _ _ _ _ => by omega) (xa_subI rfl rfl (fun _ _ _ _ => by omega) (xa_subI rfl rfl (fun _ _ _ _ => by omega) (xa_subR rfl (xa_subI rfl rfl (fun _ _ _ _ => by omega) (xa_subR rfl xa_sub0)))))))) ?_
                          exact key349 (M1 64 (M1 67 x5)) (M1 66 x5) (M1 67 x5) (by omega) (by omega) (by omega) (by omega) (by omega) (by omega) ⟨wr_mk (x9 := (M1 66 x5)) (x10 := (M1 67 x5)) e66 e67 eA eB (by omega) ((hPn9e ▸ hPn) (by omega)).2 (by omega) (by omega), by first | exact xm_corq hc 64 rfl _ | omega⟩
                    · intro (c19 : ¬ (M1 78 (M1 64 (M1 67 x5))) = ((M1 78 x3) - 1))
                      show Q 205 [(5, (0, 0, 1, 17, x5 + 1)), (8, (0, 0, 0, 9, M1 64 (M1 67 x5))), (7, (0, 0, 0, 9, M1 64 (M1 67 x5))), (6, (0, 0, 0, 9, M1 64 (M1 66 x5))), (4, (0, 0, (-1), 9, x4)), (3, (0, 0, 0, 9, x3)), (2, (2, 82, 0, 0, 0)), (1, (0, 0, 0, 9, x1)), (0, (2, 60, 0, 0, 0))] [] M1
                      refine hgo.2.1 205 _ [(5, (0, 0, 0, 16, x5 + 1)), (4, (0, 0, (-1), 9, x4)), (3, (0, 0, 0, 9, x3)), (2, (2, 82, 0, 0, 0)), (1, (0, 0, 0, 9, x1)), (0, (2, 60, 0, 0, 0))] _ _ (xa_subI rfl rfl (fun _ _ _ _ => by omega) (xa_subI rfl rfl (fun _ _ _ _ => by omega) (xa_subI rfl rfl (fun _ _ _ _ => by omega) (xa_subR rfl (xa_subI rfl rfl (fun _ _ _ _ => by omega) (xa_subR rfl xa_sub0)))))) ?_
                      have hno9 : ¬ wp_c (M 64) (M 66) (M 67) (M1 78) x3 (M1 78 x3) x5 := by
                        show ¬ ((xw_A M x5 = x3 ∧ M1 78 (xw_B M x5) = M1 78 x3 - 1) ∨ (xw_B M x5 = x3 ∧ M1 78 (xw_A M x5) = M1 78 x3 - 1))
                        rw [eA, eB]
                        omega
                      exact ih5 (x5 + 1) x4 M1 (by omega) (by omega) hc (by first | exact hG | assumption) (by first | omega | (simp [xa_up]; done) | (simp [xa_up]; omega)) (by first | omega | (simp [xa_up]; done) | (simp [xa_up]; omega)) (by first | omega | (intro h; simp [xa_up]; omega)) (by first | omega | (intro h; simp [xa_up]; omega)) (fun h => xw_E_n (hE h) (by rw [eA, eB]; omega)) (fun h => by rw [hPn9e] at hPn; exact ⟨(hPn h).1, fun i i0 i1 => by
                          by_cases e : i = x5
                          · rw [e]
                            exact hno9
                          · exact (hPn h).2 i i0 (by omega)⟩) (fun h => by omega) (by omega)
                · intro (c13 : ¬ (M1 64 (M1 67 x5)) = x3)
                  show Q 205 [(5, (0, 0, 1, 17, x5 + 1)), (7, (0, 0, 0, 9, M1 64 (M1 67 x5))), (6, (0, 0, 0, 9, M1 64 (M1 66 x5))), (4, (0, 0, (-1), 9, x4)), (3, (0, 0, 0, 9, x3)), (2, (2, 82, 0, 0, 0)), (1, (0, 0, 0, 9, x1)), (0, (2, 60, 0, 0, 0))] [] M1
                  refine hgo.2.1 205 _ [(5, (0, 0, 0, 16, x5 + 1)), (4, (0, 0, (-1), 9, x4)), (3, (0, 0, 0, 9, x3)), (2, (2, 82, 0, 0, 0)), (1, (0, 0, 0, 9, x1)), (0, (2, 60, 0, 0, 0))] _ _ (xa_subI rfl rfl (fun _ _ _ _ => by omega) (xa_subI rfl rfl (fun _ _ _ _ => by omega) (xa_subI rfl rfl (fun _ _ _ _ => by omega) (xa_subR rfl (xa_subI rfl rfl (fun _ _ _ _ => by omega) (xa_subR rfl xa_sub0)))))) ?_
                  have hno9 : ¬ wp_c (M 64) (M 66) (M 67) (M1 78) x3 (M1 78 x3) x5 := by
                    show ¬ ((xw_A M x5 = x3 ∧ M1 78 (xw_B M x5) = M1 78 x3 - 1) ∨ (xw_B M x5 = x3 ∧ M1 78 (xw_A M x5) = M1 78 x3 - 1))
                    rw [eA, eB]
                    omega
                  exact ih5 (x5 + 1) x4 M1 (by omega) (by omega) hc (by first | exact hG | assumption) (by first | omega | (simp [xa_up]; done) | (simp [xa_up]; omega)) (by first | omega | (simp [xa_up]; done) | (simp [xa_up]; omega)) (by first | omega | (intro h; simp [xa_up]; omega)) (by first | omega | (intro h; simp [xa_up]; omega)) (fun h => xw_E_n (hE h) (by rw [eA, eB]; omega)) (fun h => by rw [hPn9e] at hPn; exact ⟨(hPn h).1, fun i i0 i1 => by
                      by_cases e : i = x5
                      · rw [e]
                        exact hno9
                      · exact (hPn h).2 i i0 (by omega)⟩) (fun h => by omega) (by omega)
      refine hgo.1 12 [2, 33, 41, 169, 194, 205, 421, 349, 365, 381] 194 _ _ _ ?_
      refine And.intro ?_ ?_
      · intro (c1 : x3 = x1)
        show Q 421 [(4, (0, 0, 0, 0, 0)), (3, (0, 0, 0, 9, x3)), (2, (2, 82, 0, 0, 0)), (1, (0, 0, 0, 9, x1)), (0, (2, 60, 0, 0, 0))] [] M1
        refine hgo.2.1 421 _ [(4, (0, 0, 0, 14, 0)), (2, (2, 82, 0, 0, 0)), (1, (0, 0, 0, 9, x1)), (0, (2, 60, 0, 0, 0))] _ _ (xa_subI rfl rfl (fun _ _ _ _ => by omega) (xa_subR rfl (xa_subI rfl rfl (fun _ _ _ _ => by omega) (xa_subR rfl xa_sub0)))) ?_
        have b09 := xm_f0 hM1
        exact loop6 15 0 M1 (by omega) hc (by first | omega | (simp [xa_up]; done) | (simp [xa_up]; omega)) (by first | exact hwy | (intro i i0 i1; have h0 := h32; omega)) (wv_PD (hP9e ▸ hP) (by rw [c1]; exact hG.1)) ⟨by omega, wv_W0 h32⟩ (by omega)
      · intro (c1 : ¬ x3 = x1)
        show Q 205 [(5, (0, 0, 0, 0, 0)), (4, (0, 0, (-1), (-1), (-1))), (3, (0, 0, 0, 9, x3)), (2, (2, 82, 0, 0, 0)), (1, (0, 0, 0, 9, x1)), (0, (2, 60, 0, 0, 0))] [] M1
        refine hgo.2.1 205 _ [(5, (0, 0, 0, 16, 0)), (4, (0, 0, (-1), 9, (-1))), (3, (0, 0, 0, 9, x3)), (2, (2, 82, 0, 0, 0)), (1, (0, 0, 0, 9, x1)), (0, (2, 60, 0, 0, 0))] _ _ (xa_subI rfl rfl (fun _ _ _ _ => by omega) (xa_subI rfl rfl (fun _ _ _ _ => by omega) (xa_subI rfl rfl (fun _ _ _ _ => by omega) (xa_subR rfl (xa_subI rfl rfl (fun _ _ _ _ => by omega) (xa_subR rfl xa_sub0)))))) ?_
        exact loop5 17 0 (-1) M1 (by omega) (by omega) hc (by first | exact hG | assumption) (by first | omega | (simp [xa_up]; done) | (simp [xa_up]; omega)) (by first | omega | (simp [xa_up]; done) | (simp [xa_up]; omega)) (by first | omega | (intro h; simp [xa_up]; omega)) (by first | omega | (intro h; simp [xa_up]; omega)) (fun _ => hgx (by omega)) (fun _ => ⟨hP9e ▸ hP, fun i i0 i1 => by omega⟩) (fun h => by omega) (by omega)
  have loop3 : ∀ (n : Nat) (x3 : Int) (M1 : xa_M), 0 ≤ x3 ∧ x3 ≤ 14 → xm_cor M M1 → xw_G M x1 M1 → M1 60 29 = 0 → M1 60 32 = 0 → M1 78 0 < 99 → wr_L M x1 M1 → (∀ w : Int, 0 ≤ w → w < x3 → M1 82 w = 0 ∧ M1 83 w = 0) → 14 - x3 < (n : Int) → Q 169 [(3, (0, 0, 0, 14, x3)), (2, (2, 82, 0, 0, 0)), (1, (0, 0, 0, 9, x1)), (0, (2, 60, 0, 0, 0))] [] M1 := by
    intro n
    induction n with
    | zero => intro x3 M1 b3 hc hG h29 h32 h99 hL hz9 hms; clear hL; omega
    | succ n ih3 =>
      intro x3 M1 b3 hc hG h29 h32 h99 hL hz9 hms3
      obtain ⟨hL9, hL9e⟩ : ∃ P : Prop, P = wr_L M x1 M1 := ⟨_, rfl⟩
      rw [← hL9e] at hL
      refine hgo.2.2 _ _ _ _ (fun hM1 _ => ?_)
      have hg0 := hG.2.2 0 (by omega) (by omega) h99
      have t780 := xm_t78 hM1 0 (by omega) (by omega)
      refine hgo.1 19 [2, 33, 41, 169, 194, 205, 421, 349, 365, 381] 169 _ _ _ ?_
      refine And.intro ?_ ?_
      · intro (c1 : 14 ≤ x3)
        show Q 194 [(3, (0, 0, 0, 0, 0)), (2, (2, 82, 0, 0, 0)), (1, (0, 0, 0, 9, x1)), (0, (2, 60, 0, 0, 0))] [] M1
        refine hgo.2.1 194 _ [(3, (0, 0, 0, 9, 0)), (2, (2, 82, 0, 0, 0)), (1, (0, 0, 0, 9, x1)), (0, (2, 60, 0, 0, 0))] _ _ (xa_subI rfl rfl (fun _ _ _ _ => by omega) (xa_subR rfl (xa_subI rfl rfl (fun _ _ _ _ => by omega) (xa_subR rfl xa_sub0)))) ?_
        exact loop4 11 0 M1 (by omega) hc (by first | exact hG | assumption) (by first | omega | (simp [xa_up]; done) | (simp [xa_up]; omega)) (by first | omega | (simp [xa_up]; done) | (simp [xa_up]; omega)) (by omega) (wv_P_0 (hL9e ▸ hL) h99 h29 (fun w w0 w1 => hz9 w w0 (by omega))) (by omega)
      · intro (c1 : x3 < 14)
        refine And.intro (show 0 ≤ x3 ∧ x3 < 14 by omega) ?_
        refine And.intro (show 0 ≤ x3 ∧ x3 < 14 by omega) ?_
        show Q 169 [(3, (0, 0, 1, 15, x3 + 1)), (2, (2, 82, 0, 0, 0)), (1, (0, 0, 0, 9, x1)), (0, (2, 60, 0, 0, 0))] [] (xa_up (xa_up M1 82 x3 0) 83 x3 0)
        refine hgo.2.1 169 _ [(3, (0, 0, 0, 14, x3 + 1)), (2, (2, 82, 0, 0, 0)), (1, (0, 0, 0, 9, x1)), (0, (2, 60, 0, 0, 0))] _ _ (xa_subI rfl rfl (fun _ _ _ _ => by omega) (xa_subR rfl (xa_subI rfl rfl (fun _ _ _ _ => by omega) (xa_subR rfl xa_sub0)))) ?_
        exact ih3 (x3 + 1) (xa_up (xa_up M1 82 x3 0) 83 x3 0) (by omega) (xm_cor_a rfl (xm_cor_a rfl hc)) (by first | exact (xw_G_u (by decide) (xw_G_u (by decide) hG)) | exact (xw_G_u (by decide) (xw_G_u (by decide) (xw_fin (by omega) hAB (by rw [show (10 : Int) = x2 by omega]; exact hw))))) (by first | omega | (simp [xa_up]; done) | (simp [xa_up]; omega)) (by first | omega | (simp [xa_up]; done) | (simp [xa_up]; omega)) (by first | omega | (simp [xa_up]; done) | (simp [xa_up]; omega)) (wr_L_k (fun j => (xa_up_ne (by omega)).trans (xa_up_ne (by omega))) (hL9e ▸ hL)) (fun w w0 w1 => by
          by_cases e : w = x3
          · rw [e]
            exact ⟨(xa_up_ne (by omega)).trans xa_up_eq, xa_up_eq⟩
          · exact ⟨(xa_up_ne (by omega)).trans ((xa_up_ne (by omega)).trans (hz9 w w0 (by omega)).1), (xa_up_ne (by omega)).trans ((xa_up_ne (by omega)).trans (hz9 w w0 (by omega)).2)⟩) (by omega)
  have loop1 : ∀ (n : Nat) (x2 : Int) (M1 : xa_M), 0 ≤ x2 ∧ x2 ≤ 10 → xm_cor M M1 → xw_I M x1 M1 x2 0 → 10 - x2 < (n : Int) → Q 33 [(2, (0, 0, 0, 10, x2)), (1, (0, 0, 0, 9, x1)), (0, (2, 60, 0, 0, 0))] [] M1 := by
    intro n
    induction n with
    | zero => intro x2 M1 b2 hc hw hms; omega
    | succ n ih1 =>
      intro x2 M1 b2 hc hw hms1
      refine hgo.2.2 _ _ _ _ (fun hM1 _ => ?_)
      have b6 := xm_f6 hM1
      have e6 := xm_corf hc 6 (by omega)
      have loop2 : ∀ (n : Nat) (x3 : Int) (M1 : xa_M), 0 ≤ x3 ∧ x3 ≤ 16 → 0 ≤ x2 ∧ x2 ≤ 9 → 0 ≤ x1 ∧ x1 ≤ 9 → xm_cor M M1 → xw_I M x1 M1 x2 x3 → 16 - x3 < (n : Int) → Q 41 [(3, (0, 0, 0, 16, x3)), (2, (0, 0, 0, 9, x2)), (1, (0, 0, 0, 9, x1)), (0, (2, 60, 0, 0, 0))] [] M1 := by
        intro n
        induction n with
        | zero => intro x3 M1 b3 f2 f1 hc hw hms; omega
        | succ n ih2 =>
          intro x3 M1 b3 f2 f1 hc hw hms2
          refine hgo.2.2 _ _ _ _ (fun hM1 _ => ?_)
          have b6 := xm_f6 hM1
          have e6 := xm_corf hc 6 (by omega)
          have e66 := xm_corq hc 66 rfl x3
          have e67 := xm_corq hc 67 rfl x3
          have eA : xw_A M x3 = M1 64 (M1 66 x3) := by rw [e66]; exact (xm_corq hc 64 rfl _).symm
          have eB : xw_B M x3 = M1 64 (M1 67 x3) := by rw [e67]; exact (xm_corq hc 64 rfl _).symm
          have hms := fun h : x3 < M1 60 6 => xm_msh hM1 (xm_Inv_cor hc hI) (by omega) h
          have tA : x3 < M1 60 6 → 0 ≤ M1 78 (M1 64 (M1 66 x3)) := fun h => (xm_t78 hM1 _ (hms h).2.2.1.1 (by have := hms h; omega)).1
          have tB : x3 < M1 60 6 → 0 ≤ M1 78 (M1 64 (M1 67 x3)) := fun h => (xm_t78 hM1 _ (hms h).2.2.2.1.1 (by have := hms h; omega)).1
          refine hgo.1 57 [2, 33, 41, 169, 194, 205, 421, 349, 365, 381] 41 _ _ _ ?_
          refine And.intro ?_ ?_
          · intro (c1 : (M1 60 6) ≤ x3)
            show Q 33 [(2, (0, 0, 1, 10, x2 + 1)), (3, (0, 0, 0, 16, x3)), (1, (0, 0, 0, 9, x1)), (0, (2, 60, 0, 0, 0))] [] M1
            refine hgo.2.1 33 _ [(2, (0, 0, 0, 10, x2 + 1)), (1, (0, 0, 0, 9, x1)), (0, (2, 60, 0, 0, 0))] _ _ (xa_subI rfl rfl (fun _ _ _ _ => by omega) (xa_subI rfl rfl (fun _ _ _ _ => by omega) (xa_subR rfl xa_sub0))) ?_
            exact ih1 (x2 + 1) M1 (by omega) hc (by first | exact hw | exact xw_rd hw (by omega) | exact xw_ini hM1 hX hAB (by omega) hin) (by omega)
          · intro (c1 : x3 < (M1 60 6))
            refine And.intro (show 0 ≤ x3 ∧ x3 < 16 by omega) ?_
            refine And.intro (show 0 ≤ x3 ∧ x3 < 16 by omega) ?_
            show xa_C xm_I A h0 _ 32 [(0, 0, 0, 99, M1 78 (M1 64 (M1 66 x3))), (0, 0, 1, 100, (M1 78 (M1 64 (M1 67 x3))) + 1)] M1 _
            refine ct_min 0 99 (by decide) (by decide) (by decide) (fun r2 br2 er2 => ?_)
            show xa_C xm_I A h0 _ 32 [(0, 0, 0, 99, (xa_up M1 78 (M1 64 (M1 66 x3)) r2) 78 (M1 64 (M1 67 x3))), (0, 0, 1, 100, ((xa_up M1 78 (M1 64 (M1 66 x3)) r2) 78 (M1 64 (M1 66 x3))) + 1)] (xa_up M1 78 (M1 64 (M1 66 x3)) r2) _
            refine ct_min 0 99 (by decide) (by decide) (by decide) (fun r3 br3 er3 => ?_)
            show Q 41 [(3, (0, 0, 1, 17, x3 + 1)), (5, (0, 0, 0, 9, M1 64 (M1 67 x3))), (4, (0, 0, 0, 9, M1 64 (M1 66 x3))), (2, (0, 0, 0, 9, x2)), (1, (0, 0, 0, 9, x1)), (0, (2, 60, 0, 0, 0))] [] (xa_up (xa_up M1 78 (M1 64 (M1 66 x3)) r2) 78 (M1 64 (M1 67 x3)) r3)
            refine hgo.2.1 41 _ [(3, (0, 0, 0, 16, x3 + 1)), (2, (0, 0, 0, 9, x2)), (1, (0, 0, 0, 9, x1)), (0, (2, 60, 0, 0, 0))] _ _ (xa_subI rfl rfl (fun _ _ _ _ => by omega) (xa_subI rfl rfl (fun _ _ _ _ => by omega) (xa_subI rfl rfl (fun _ _ _ _ => by omega) (xa_subR rfl xa_sub0)))) ?_
            exact ih2 (x3 + 1) (xa_up (xa_up M1 78 (M1 64 (M1 66 x3)) r2) 78 (M1 64 (M1 67 x3)) r3) (by omega) (by omega) (by omega) (xm_cor_a rfl (xm_cor_a rfl hc)) (xw_two hw (by omega) eA eB (by omega) (by omega) (by omega) (by have uu : xa_up M1 78 (M1 64 (M1 66 x3)) r2 78 (M1 64 (M1 66 x3)) = r2 := (by rw [xw_up, if_pos rfl]); omega)) (by omega)
      refine hgo.1 25 [2, 33, 41, 169, 194, 205, 421, 349, 365, 381] 33 _ _ _ ?_
      refine And.intro ?_ ?_
      · intro (c1 : 10 ≤ x2)
        refine And.intro ?_ ?_
        · intro (c2 : (M1 78 0) < 99)
          show Q 169 [(3, (0, 0, 0, 0, 0)), (2, (2, 82, 0, 0, 0)), (1, (0, 0, 0, 9, x1)), (0, (2, 60, 0, 0, 0))] [] (xa_up (xa_up M1 60 29 0) 60 32 0)
          refine hgo.2.1 169 _ [(3, (0, 0, 0, 14, 0)), (2, (2, 82, 0, 0, 0)), (1, (0, 0, 0, 9, x1)), (0, (2, 60, 0, 0, 0))] _ _ (xa_subI rfl rfl (fun _ _ _ _ => by omega) (xa_subR rfl (xa_subI rfl rfl (fun _ _ _ _ => by omega) (xa_subR rfl xa_sub0)))) ?_
          exact loop3 15 0 (xa_up (xa_up M1 60 29 0) 60 32 0) (by omega) (xm_cor_f (by omega) (xm_cor_f (by omega) hc)) (by first | exact (xw_G_u (by decide) (xw_G_u (by decide) hG)) | exact (xw_G_u (by decide) (xw_G_u (by decide) (xw_fin (by omega) hAB (by rw [show (10 : Int) = x2 by omega]; exact hw))))) (by first | omega | (simp [xa_up]; done) | (simp [xa_up]; omega)) (by first | omega | (simp [xa_up]; done) | (simp [xa_up]; omega)) (by first | omega | (simp [xa_up]; done) | (simp [xa_up]; omega)) (wr_L_k (M1 := M1) (fun j => (xa_up_ne (by omega)).trans (xa_up_ne (by omega))) (wr_L_of (by omega) hAB (by rw [show (10 : Int) = x2 by omega]; exact hw))) (fun w w0 w1 => by omega) (by omega)
        · intro (c2 : 99 ≤ (M1 78 0))
          show xa_wk post (some (0, 0, 0, 0, 0)) M1
          exact xa_wkI 0 rfl (fun _ _ => by omega) (k 0 _ (Or.inl rfl) hc (fun e => absurd e (by decide)) ⟨wr_L_of (by omega) hAB (by rw [show (10 : Int) = x2 by omega]; exact hw), Or.inr ⟨rfl, c2⟩⟩)
      · intro (c1 : x2 < 10)
        show Q 41 [(3, (0, 0, 0, 0, 0)), (2, (0, 0, 0, 10, x2)), (1, (0, 0, 0, 9, x1)), (0, (2, 60, 0, 0, 0))] [] M1
        refine hgo.2.1 41 _ [(3, (0, 0, 0, 16, 0)), (2, (0, 0, 0, 9, x2)), (1, (0, 0, 0, 9, x1)), (0, (2, 60, 0, 0, 0))] _ _ (xa_subI rfl rfl (fun _ _ _ _ => by omega) (xa_subI rfl rfl (fun _ _ _ _ => by omega) (xa_subI rfl rfl (fun _ _ _ _ => by omega) (xa_subR rfl xa_sub0)))) ?_
        exact loop2 17 0 M1 (by omega) (by omega) (by omega) hc hw (by omega)
  have loop0 : ∀ (n : Nat) (x2 : Int) (M1 : xa_M), 0 ≤ x2 ∧ x2 ≤ 10 → xm_cor M M1 → (∀ i, 0 ≤ i → i < x2 → M1 78 i = if i = x1 then 0 else 99) → 10 - x2 < (n : Int) → Q 2 [(2, (0, 0, 0, 10, x2)), (1, (0, 0, 0, 9, x1)), (0, (2, 60, 0, 0, 0))] [] M1 := by
    intro n
    induction n with
    | zero => intro x2 M1 b2 hc hin hms; omega
    | succ n ih0 =>
      intro x2 M1 b2 hc hin hms0
      refine hgo.2.2 _ _ _ _ (fun hM1 _ => ?_)
      refine hgo.1 19 [2, 33, 41, 169, 194, 205, 421, 349, 365, 381] 2 _ _ _ ?_
      refine And.intro ?_ ?_
      · intro (c1 : 10 ≤ x2)
        show Q 33 [(2, (0, 0, 0, 0, 0)), (1, (0, 0, 0, 9, x1)), (0, (2, 60, 0, 0, 0))] [] M1
        refine hgo.2.1 33 _ [(2, (0, 0, 0, 10, 0)), (1, (0, 0, 0, 9, x1)), (0, (2, 60, 0, 0, 0))] _ _ (xa_subI rfl rfl (fun _ _ _ _ => by omega) (xa_subI rfl rfl (fun _ _ _ _ => by omega) (xa_subR rfl xa_sub0))) ?_
        exact loop1 11 0 M1 (by omega) hc (by first | exact hw | exact xw_rd hw (by omega) | exact xw_ini hM1 hX hAB (by omega) hin) (by omega)
      · intro (c1 : x2 < 10)
        refine And.intro ?_ ?_
        · intro (c2 : ¬ x2 = x1)
          refine And.intro (show 0 ≤ x2 ∧ x2 < 10 by omega) ?_
          show Q 2 [(2, (0, 0, 1, 11, x2 + 1)), (1, (0, 0, 0, 9, x1)), (0, (2, 60, 0, 0, 0))] [] (xa_up M1 78 x2 99)
          refine hgo.2.1 2 _ [(2, (0, 0, 0, 10, x2 + 1)), (1, (0, 0, 0, 9, x1)), (0, (2, 60, 0, 0, 0))] _ _ (xa_subI rfl rfl (fun _ _ _ _ => by omega) (xa_subI rfl rfl (fun _ _ _ _ => by omega) (xa_subR rfl xa_sub0))) ?_
          exact ih0 (x2 + 1) (xa_up M1 78 x2 99) (by omega) (xm_cor_a rfl hc) (fun i i0 i1 => by rw [xw_up]; by_cases e : i = x2; (rw [if_pos e, if_neg (show ¬ i = x1 by omega)]); (rw [if_neg e]; exact hin i i0 (by omega))) (by omega)
        · intro (c2 : x2 = x1)
          refine And.intro (show 0 ≤ x2 ∧ x2 < 10 by omega) ?_
          show Q 2 [(2, (0, 0, 1, 11, x2 + 1)), (1, (0, 0, 0, 9, x1)), (0, (2, 60, 0, 0, 0))] [] (xa_up M1 78 x2 0)
          refine hgo.2.1 2 _ [(2, (0, 0, 0, 10, x2 + 1)), (1, (0, 0, 0, 9, x1)), (0, (2, 60, 0, 0, 0))] _ _ (xa_subI rfl rfl (fun _ _ _ _ => by omega) (xa_subI rfl rfl (fun _ _ _ _ => by omega) (xa_subR rfl xa_sub0))) ?_
          exact ih0 (x2 + 1) (xa_up M1 78 x2 0) (by omega) (xm_cor_a rfl hc) (fun i i0 i1 => by rw [xw_up]; by_cases e : i = x2; (rw [if_pos e, if_pos (show i = x1 by omega)]); (rw [if_neg e]; exact hin i i0 (by omega))) (by omega)
  refine hgo.1 7 [2, 33, 41, 169, 194, 205, 421, 349, 365, 381] 0 _ _ _ ?_
  show Q 2 [(2, (0, 0, 0, 0, 0)), (0, (2, 60, 0, 0, 0)), (1, (0, 0, 0, 9, x1))] [] M
  refine hgo.2.1 2 _ [(2, (0, 0, 0, 10, 0)), (1, (0, 0, 0, 9, x1)), (0, (2, 60, 0, 0, 0))] _ _ (xa_subI rfl rfl (fun _ _ _ _ => by omega) (xa_subI rfl rfl (fun _ _ _ _ => by omega) (xa_subR rfl xa_sub0))) ?_
  exact loop0 11 0 M (by omega) xm_cor_r (fun i i0 i1 => by omega) (by omega)
-- the class's find, told
theorem cx_23_19 {b : Bool} {A : Nat → Nat} {h0 : g_H} {d : Nat} {M : xa_M} {post : Option xa_V → xa_M → Prop} {l1 u1 : Int} {i : Int} (h1 : 0 ≤ i ∧ i < 10) (k1 : post (some (0, 0, (-2147483648), 2147483647, M 19 i)) M) : xa_C (xl_I b) A h0 (d + 1) 23 [(2, 19, 0, 0, 0), (0, 0, l1, u1, i)] M post := by
  refine xa_C_arg [(2, 19, 0, 0, 0), (0, 0, (-2147483648), 2147483647, i)] (xa_svR (xa_svI (fun _ _ _ _ => by omega) xa_sv0)) ?_
  refine xa_meth (Q0 := (2, 1, false, 0, 0, 11)) (by decide +kernel) ⟨rfl, rfl⟩ (full := s_c_23) rfl rfl ?_
  intro hM hv Q hgo
  refine hgo.1 15 [] 0 _ _ _ ?_
  refine And.intro ?_ ?_
  · intro (c1 : i < 0)
    show post (some (0, 0, 0, 0, 0)) M
    exact absurd h1 (by omega)
  · intro (c1 : 0 ≤ i)
    refine And.intro ?_ ?_
    · intro (c2 : 10 ≤ i)
      show post (some (0, 0, 0, 0, 0)) M
      exact absurd h1 (by omega)
    · intro (c2 : i < 10)
      refine And.intro (show 0 ≤ i ∧ i < 10 by omega) ?_
      show post (some (0, 0, (-2147483648), 2147483647, M 19 i)) M
      exact k1
theorem cx_82s_19 {b : Bool} {A : Nat → Nat} {h0 : g_H} {d : Nat} {M : xa_M} {post : Option xa_V → xa_M → Prop} {l1 u1 l2 u2 n w : Int} (hn : 0 ≤ n ∧ n ≤ 10) (k : ∀ r : Int, r = wf_b (M 19) n w → post (some (0, 0, 0, 1, r)) M) : xa_C (xl_I b) A h0 (d + 2) 82 [(2, 19, 0, 0, 0), (0, 0, l1, u1, n), (0, 0, l2, u2, w)] M post := by
  refine xa_C_arg [(2, 19, 0, 0, 0), (0, 0, 0, 10, n), (0, 0, (-2147483648), 2147483647, w)] (xa_svR (xa_svI (fun _ _ _ _ => by omega) (xa_svI (fun _ _ _ _ => by omega) xa_sv0))) (xa_C_wk ?_)
  refine xa_meth (Q0 := (4, 2, false, 0, 0, 10)) (by decide +kernel) ⟨rfl, rfl⟩ (full := s_c_82) rfl rfl ?_
  intro hM hv Q hgo
  have loop : ∀ (f : Nat) (i : Int), 0 ≤ i → i ≤ n → (∀ j : Int, 0 ≤ j → j < i → ¬ M 19 j = w) → 10 - i < (f : Int) → Q 2 [(3, (0, 0, 0, 10, i)), (0, (2, 19, 0, 0, 0)), (1, (0, 0, 0, 10, n)), (2, (0, 0, (-2147483648), 2147483647, w))] [] M := by
    intro f
    induction f with
    | zero => intro i i0 i1 hno hms; omega
    | succ f ih =>
      intro i i0 i1 hno hms
      refine hgo.1 15 [2] 2 _ _ _ ?_
      refine And.intro ?_ ?_
      · intro (c1 : n ≤ i)
        show xa_wk post (some (0, 0, 0, 0, 0)) M
        exact xa_wkI 0 rfl (fun _ _ => by omega) (k 0 ((wf_b0 hn.1 (fun j j0 j1 => hno j j0 (by omega))).symm))
      · intro (c1 : i < n)
        show xa_C (xl_I b) A h0 _ 23 [(2, 19, 0, 0, 0), (0, 0, 0, 10, i)] M _
        refine cx_23_19 (show 0 ≤ i ∧ i < 10 by omega) ?_
        refine And.intro ?_ ?_
        · intro (c2 : ¬ (M 19 i) = w)
          show Q 2 [(3, (0, 0, 1, 11, i + 1)), (0, (2, 19, 0, 0, 0)), (1, (0, 0, 0, 10, n)), (2, (0, 0, (-2147483648), 2147483647, w))] [] M
          refine hgo.2.1 2 _ [(3, (0, 0, 0, 10, i + 1)), (0, (2, 19, 0, 0, 0)), (1, (0, 0, 0, 10, n)), (2, (0, 0, (-2147483648), 2147483647, w))] _ _ (xa_subI rfl rfl (fun _ _ _ _ => by omega) (xa_subR rfl (xa_subI rfl rfl (fun _ _ _ _ => by omega) (xa_subI rfl rfl (fun _ _ _ _ => by omega) (xa_sub0))))) ?_
          exact ih (i + 1) (by omega) (by omega) (fun j j0 j1 => by
            by_cases e : j = i
            · rw [e]
              omega
            · exact hno j j0 (by omega)) (by omega)
        · intro (c2 : (M 19 i) = w)
          show xa_wk post (some (0, 0, 1, 1, 1)) M
          exact xa_wkI 1 rfl (fun _ _ => by omega) (k 1 ((wf_b1 hn.1).mpr ⟨i, by omega, by omega, by omega⟩).symm)
  refine hgo.1 7 [2] 0 _ _ _ ?_
  show Q 2 [(3, (0, 0, 0, 0, 0)), (0, (2, 19, 0, 0, 0)), (1, (0, 0, 0, 10, n)), (2, (0, 0, (-2147483648), 2147483647, w))] [] M
  refine hgo.2.1 2 _ [(3, (0, 0, 0, 10, 0)), (0, (2, 19, 0, 0, 0)), (1, (0, 0, 0, 10, n)), (2, (0, 0, (-2147483648), 2147483647, w))] _ _ (xa_subI rfl rfl (fun _ _ _ _ => by omega) (xa_subR rfl (xa_subI rfl rfl (fun _ _ _ _ => by omega) (xa_subI rfl rfl (fun _ _ _ _ => by omega) (xa_sub0))))) ?_
  exact loop 11 0 (by omega) (by omega) (fun j j0 j1 => by omega) (by omega)
theorem cx_23_20 {b : Bool} {A : Nat → Nat} {h0 : g_H} {d : Nat} {M : xa_M} {post : Option xa_V → xa_M → Prop} {l1 u1 : Int} {i : Int} (h1 : 0 ≤ i ∧ i < 10) (k1 : post (some (0, 0, (-2147483648), 2147483647, M 20 i)) M) : xa_C (xl_I b) A h0 (d + 1) 23 [(2, 20, 0, 0, 0), (0, 0, l1, u1, i)] M post := by
  refine xa_C_arg [(2, 20, 0, 0, 0), (0, 0, (-2147483648), 2147483647, i)] (xa_svR (xa_svI (fun _ _ _ _ => by omega) xa_sv0)) ?_
  refine xa_meth (Q0 := (2, 1, false, 0, 0, 11)) (by decide +kernel) ⟨rfl, rfl⟩ (full := s_c_23) rfl rfl ?_
  intro hM hv Q hgo
  refine hgo.1 15 [] 0 _ _ _ ?_
  refine And.intro ?_ ?_
  · intro (c1 : i < 0)
    show post (some (0, 0, 0, 0, 0)) M
    exact absurd h1 (by omega)
  · intro (c1 : 0 ≤ i)
    refine And.intro ?_ ?_
    · intro (c2 : 10 ≤ i)
      show post (some (0, 0, 0, 0, 0)) M
      exact absurd h1 (by omega)
    · intro (c2 : i < 10)
      refine And.intro (show 0 ≤ i ∧ i < 10 by omega) ?_
      show post (some (0, 0, (-2147483648), 2147483647, M 20 i)) M
      exact k1
theorem cx_82s_20 {b : Bool} {A : Nat → Nat} {h0 : g_H} {d : Nat} {M : xa_M} {post : Option xa_V → xa_M → Prop} {l1 u1 l2 u2 n w : Int} (hn : 0 ≤ n ∧ n ≤ 10) (k : ∀ r : Int, r = wf_b (M 20) n w → post (some (0, 0, 0, 1, r)) M) : xa_C (xl_I b) A h0 (d + 2) 82 [(2, 20, 0, 0, 0), (0, 0, l1, u1, n), (0, 0, l2, u2, w)] M post := by
  refine xa_C_arg [(2, 20, 0, 0, 0), (0, 0, 0, 10, n), (0, 0, (-2147483648), 2147483647, w)] (xa_svR (xa_svI (fun _ _ _ _ => by omega) (xa_svI (fun _ _ _ _ => by omega) xa_sv0))) (xa_C_wk ?_)
  refine xa_meth (Q0 := (4, 2, false, 0, 0, 10)) (by decide +kernel) ⟨rfl, rfl⟩ (full := s_c_82) rfl rfl ?_
  intro hM hv Q hgo
  have loop : ∀ (f : Nat) (i : Int), 0 ≤ i → i ≤ n → (∀ j : Int, 0 ≤ j → j < i → ¬ M 20 j = w) → 10 - i < (f : Int) → Q 2 [(3, (0, 0, 0, 10, i)), (0, (2, 20, 0, 0, 0)), (1, (0, 0, 0, 10, n)), (2, (0, 0, (-2147483648), 2147483647, w))] [] M := by
    intro f
    induction f with
    | zero => intro i i0 i1 hno hms; omega
    | succ f ih =>
      intro i i0 i1 hno hms
      refine hgo.1 15 [2] 2 _ _ _ ?_
      refine And.intro ?_ ?_
      · intro (c1 : n ≤ i)
        show xa_wk post (some (0, 0, 0, 0, 0)) M
        exact xa_wkI 0 rfl (fun _ _ => by omega) (k 0 ((wf_b0 hn.1 (fun j j0 j1 => hno j j0 (by omega))).symm))
      · intro (c1 : i < n)
        show xa_C (xl_I b) A h0 _ 23 [(2, 20, 0, 0, 0), (0, 0, 0, 10, i)] M _
        refine cx_23_20 (show 0 ≤ i ∧ i < 10 by omega) ?_
        refine And.intro ?_ ?_
        · intro (c2 : ¬ (M 20 i) = w)
          show Q 2 [(3, (0, 0, 1, 11, i + 1)), (0, (2, 20, 0, 0, 0)), (1, (0, 0, 0, 10, n)), (2, (0, 0, (-2147483648), 2147483647, w))] [] M
          refine hgo.2.1 2 _ [(3, (0, 0, 0, 10, i + 1)), (0, (2, 20, 0, 0, 0)), (1, (0, 0, 0, 10, n)), (2, (0, 0, (-2147483648), 2147483647, w))] _ _ (xa_subI rfl rfl (fun _ _ _ _ => by omega) (xa_subR rfl (xa_subI rfl rfl (fun _ _ _ _ => by omega) (xa_subI rfl rfl (fun _ _ _ _ => by omega) (xa_sub0))))) ?_
          exact ih (i + 1) (by omega) (by omega) (fun j j0 j1 => by
            by_cases e : j = i
            · rw [e]
              omega
            · exact hno j j0 (by omega)) (by omega)
        · intro (c2 : (M 20 i) = w)
          show xa_wk post (some (0, 0, 1, 1, 1)) M
          exact xa_wkI 1 rfl (fun _ _ => by omega) (k 1 ((wf_b1 hn.1).mpr ⟨i, by omega, by omega, by omega⟩).symm)
  refine hgo.1 7 [2] 0 _ _ _ ?_
  show Q 2 [(3, (0, 0, 0, 0, 0)), (0, (2, 20, 0, 0, 0)), (1, (0, 0, 0, 10, n)), (2, (0, 0, (-2147483648), 2147483647, w))] [] M
  refine hgo.2.1 2 _ [(3, (0, 0, 0, 10, 0)), (0, (2, 20, 0, 0, 0)), (1, (0, 0, 0, 10, n)), (2, (0, 0, (-2147483648), 2147483647, w))] _ _ (xa_subI rfl rfl (fun _ _ _ _ => by omega) (xa_subR rfl (xa_subI rfl rfl (fun _ _ _ _ => by omega) (xa_subI rfl rfl (fun _ _ _ _ => by omega) (xa_sub0))))) ?_
  exact loop 11 0 (by omega) (by omega) (fun j j0 j1 => by omega) (by omega)
theorem cx_81s {b : Bool} {A : Nat → Nat} {h0 : g_H} {d : Nat} {M : xa_M} {post : Option xa_V → xa_M → Prop} {l1 u1 x1 n : Int} {D : Int → Int} (hD : M 19 = D) (hl : M 16 4 = n) (hn : 0 ≤ n ∧ n ≤ 10) (k : ∀ r : Int, r = wf_b D n x1 → post (some (0, 0, 0, 1, r)) M) : xa_C (xl_I b) A h0 (d + 3) 81 [(2, 16, 0, 0, 0), (0, 0, l1, u1, x1)] M post := by
  refine xa_C_arg [(2, 16, 0, 0, 0), (0, 0, (-2147483648), 2147483647, x1)] (xa_svR (xa_svI (fun _ _ _ _ => by omega) xa_sv0)) ?_
  refine xa_meth (Q0 := (2, 2, false, 0, 0, 10)) (by decide +kernel) ⟨rfl, rfl⟩ (full := s_c_81) rfl rfl ?_
  intro hM hv Q hgo
  refine hgo.1 11 [] 0 _ _ _ ?_
  show xa_C (xl_I b) A h0 _ 82 [(2, 19, 0, 0, 0), (0, 0, (-2147483648), 2147483647, M 16 4), (0, 0, (-2147483648), 2147483647, x1)] M _
  refine cx_82s_19 (show 0 ≤ (M 16 4) ∧ (M 16 4) ≤ 10 by omega) ?_
  intro r105 (i1 : r105 = wf_b (M 19) (M 16 4) x1)
  show post (some (0, 0, 0, 1, r105)) M
  exact k _ (by rw [← hD, ← hl]; exact i1)
theorem cx_83s {b : Bool} {A : Nat → Nat} {h0 : g_H} {d : Nat} {M : xa_M} {post : Option xa_V → xa_M → Prop} {l1 u1 x1 n : Int} {D : Int → Int} (hD : M 20 = D) (hl : M 16 4 = n) (hn : 0 ≤ n ∧ n ≤ 10) (k : ∀ r : Int, r = wf_b D n x1 → post (some (0, 0, 0, 1, r)) M) : xa_C (xl_I b) A h0 (d + 3) 83 [(2, 16, 0, 0, 0), (0, 0, l1, u1, x1)] M post := by
  refine xa_C_arg [(2, 16, 0, 0, 0), (0, 0, (-2147483648), 2147483647, x1)] (xa_svR (xa_svI (fun _ _ _ _ => by omega) xa_sv0)) ?_
  refine xa_meth (Q0 := (2, 2, false, 0, 0, 10)) (by decide +kernel) ⟨rfl, rfl⟩ (full := s_c_83) rfl rfl ?_
  intro hM hv Q hgo
  refine hgo.1 11 [] 0 _ _ _ ?_
  show xa_C (xl_I b) A h0 _ 82 [(2, 20, 0, 0, 0), (0, 0, (-2147483648), 2147483647, M 16 4), (0, 0, (-2147483648), 2147483647, x1)] M _
  refine cx_82s_20 (show 0 ≤ (M 16 4) ∧ (M 16 4) ≤ 10 by omega) ?_
  intro r106 (i1 : r106 = wf_b (M 20) (M 16 4) x1)
  show post (some (0, 0, 0, 1, r106)) M
  exact k _ (by rw [← hD, ← hl]; exact i1)
theorem cx_18_21 {b : Bool} {A : Nat → Nat} {h0 : g_H} {d : Nat} {M : xa_M} {post : Option xa_V → xa_M → Prop} {l1 u1 l2 u2 : Int} {i v : Int} (h1 : 0 ≤ i ∧ i < 14) (k1 : post none (xa_up M 21 i v)) : xa_C (xl_I b) A h0 (d + 1) 18 [(2, 21, 0, 0, 0), (0, 0, l1, u1, i), (0, 0, l2, u2, v)] M post := by
  refine xa_C_arg [(2, 21, 0, 0, 0), (0, 0, (-2147483648), 2147483647, i), (0, 0, (-2147483648), 2147483647, v)] (xa_svR (xa_svI (fun _ _ _ _ => by omega) (xa_svI (fun _ _ _ _ => by omega) xa_sv0))) ?_
  refine xa_meth (Q0 := (3, 0, false, 0, 0, 11)) (by decide +kernel) ⟨rfl, rfl⟩ (full := s_c_18) rfl rfl ?_
  intro hM hv Q hgo
  refine hgo.1 15 [] 0 _ _ _ ?_
  refine And.intro ?_ ?_
  · intro (c1 : i < 0)
    show post none M
    exact absurd h1 (by omega)
  · intro (c1 : 0 ≤ i)
    refine And.intro ?_ ?_
    · intro (c2 : 14 ≤ i)
      show post none M
      exact absurd h1 (by omega)
    · intro (c2 : i < 14)
      refine And.intro (show 0 ≤ i ∧ i < 14 by omega) ?_
      show post none (xa_up M 21 i v)
      exact k1
theorem cx_18_22 {b : Bool} {A : Nat → Nat} {h0 : g_H} {d : Nat} {M : xa_M} {post : Option xa_V → xa_M → Prop} {l1 u1 l2 u2 : Int} {i v : Int} (h1 : 0 ≤ i ∧ i < 14) (k1 : post none (xa_up M 22 i v)) : xa_C (xl_I b) A h0 (d + 1) 18 [(2, 22, 0, 0, 0), (0, 0, l1, u1, i), (0, 0, l2, u2, v)] M post := by
  refine xa_C_arg [(2, 22, 0, 0, 0), (0, 0, (-2147483648), 2147483647, i), (0, 0, (-2147483648), 2147483647, v)] (xa_svR (xa_svI (fun _ _ _ _ => by omega) (xa_svI (fun _ _ _ _ => by omega) xa_sv0))) ?_
  refine xa_meth (Q0 := (3, 0, false, 0, 0, 11)) (by decide +kernel) ⟨rfl, rfl⟩ (full := s_c_18) rfl rfl ?_
  intro hM hv Q hgo
  refine hgo.1 15 [] 0 _ _ _ ?_
  refine And.intro ?_ ?_
  · intro (c1 : i < 0)
    show post none M
    exact absurd h1 (by omega)
  · intro (c1 : 0 ≤ i)
    refine And.intro ?_ ?_
    · intro (c2 : 14 ≤ i)
      show post none M
      exact absurd h1 (by omega)
    · intro (c2 : i < 14)
      refine And.intro (show 0 ≤ i ∧ i < 14 by omega) ?_
      show post none (xa_up M 22 i v)
      exact k1
theorem cx_18_23 {b : Bool} {A : Nat → Nat} {h0 : g_H} {d : Nat} {M : xa_M} {post : Option xa_V → xa_M → Prop} {l1 u1 l2 u2 : Int} {i v : Int} (h1 : 0 ≤ i ∧ i < 14) (k1 : post none (xa_up M 23 i v)) : xa_C (xl_I b) A h0 (d + 1) 18 [(2, 23, 0, 0, 0), (0, 0, l1, u1, i), (0, 0, l2, u2, v)] M post := by
  refine xa_C_arg [(2, 23, 0, 0, 0), (0, 0, (-2147483648), 2147483647, i), (0, 0, (-2147483648), 2147483647, v)] (xa_svR (xa_svI (fun _ _ _ _ => by omega) (xa_svI (fun _ _ _ _ => by omega) xa_sv0))) ?_
  refine xa_meth (Q0 := (3, 0, false, 0, 0, 11)) (by decide +kernel) ⟨rfl, rfl⟩ (full := s_c_18) rfl rfl ?_
  intro hM hv Q hgo
  refine hgo.1 15 [] 0 _ _ _ ?_
  refine And.intro ?_ ?_
  · intro (c1 : i < 0)
    show post none M
    exact absurd h1 (by omega)
  · intro (c1 : 0 ≤ i)
    refine And.intro ?_ ?_
    · intro (c2 : 14 ≤ i)
      show post none M
      exact absurd h1 (by omega)
    · intro (c2 : i < 14)
      refine And.intro (show 0 ≤ i ∧ i < 14 by omega) ?_
      show post none (xa_up M 23 i v)
      exact k1
theorem cx_18_24 {b : Bool} {A : Nat → Nat} {h0 : g_H} {d : Nat} {M : xa_M} {post : Option xa_V → xa_M → Prop} {l1 u1 l2 u2 : Int} {i v : Int} (h1 : 0 ≤ i ∧ i < 14) (h2 : 0 ≤ v ∧ v ≤ 400) (k1 : post none (xa_up M 24 i v)) : xa_C (xl_I b) A h0 (d + 1) 18 [(2, 24, 0, 0, 0), (0, 0, l1, u1, i), (0, 0, l2, u2, v)] M post := by
  refine xa_C_arg [(2, 24, 0, 0, 0), (0, 0, (-2147483648), 2147483647, i), (0, 0, (-2147483648), 2147483647, v)] (xa_svR (xa_svI (fun _ _ _ _ => by omega) (xa_svI (fun _ _ _ _ => by omega) xa_sv0))) ?_
  refine xa_meth (Q0 := (3, 0, false, 0, 0, 11)) (by decide +kernel) ⟨rfl, rfl⟩ (full := s_c_18) rfl rfl ?_
  intro hM hv Q hgo
  refine hgo.1 15 [] 0 _ _ _ ?_
  refine And.intro ?_ ?_
  · intro (c1 : i < 0)
    show post none M
    exact absurd h1 (by omega)
  · intro (c1 : 0 ≤ i)
    refine And.intro ?_ ?_
    · intro (c2 : 14 ≤ i)
      show post none M
      exact absurd h1 (by omega)
    · intro (c2 : i < 14)
      refine And.intro (show 0 ≤ i ∧ i < 14 by omega) ?_
      refine And.intro (show 0 ≤ v ∧ v ≤ 400 by omega) ?_
      show post none (xa_up M 24 i v)
      exact k1
theorem cx_74s {b : Bool} {A : Nat → Nat} {h0 : g_H} {d : Nat} {M : xa_M} {post : Option xa_V → xa_M → Prop} {l1 u1 X : Int} {F : Int → Int} (hL : wy_L (M 1 10) (fun i => M 5 (M 7 i)) (fun i => M 5 (M 8 i)) F X) (hX : 0 ≤ X ∧ X < 10) (hn : 0 ≤ M 1 10 ∧ M 1 10 ≤ 16) (hr : ∀ k, 0 ≤ k → k < M 1 10 → (0 ≤ M 7 k ∧ M 7 k < 14) ∧ (0 ≤ M 8 k ∧ M 8 k < 14)) (ha : ∀ w, 0 ≤ w → w < 14 → 0 ≤ M 5 w ∧ M 5 w < 10) (hw : 0 ≤ M 1 9 ∧ M 1 9 ≤ 14) (hF9 : 0 < F 0) (k : ∀ (r : Int) (M1 : xa_M), (F 0 < 99 → r = 1 ∧ M1 16 4 = F 0 ∧ (wp_Q (M 1 10) (M 5) (M 7) (M 8) F (F 0) (M1 18) (M1 19) (M1 20) (F 0)) ∧ (wf_W (M1 19) (M1 20) (M 2) (M 3) (F 0) (M1 15 10) (M1 21) (M1 22) (M1 23) (M1 24) (M 1 9))) → (99 ≤ F 0 → r = 0) → (∀ q j, ¬ (15 ≤ q ∧ q ≤ 24) → M1 q j = M q j) → post (some (0, 0, 0, 1, r)) M1) : xa_C (xl_I b) A h0 (d + 5) 74 [(2, 15, 0, 0, 0), (2, 1, 0, 0, 0), (0, 0, l1, u1, X)] M post := by
  refine xa_C_wk ?_
  refine xa_C_arg [(2, 15, 0, 0, 0), (2, 1, 0, 0, 0), (0, 0, (-2147483648), 2147483647, X)] (xa_svR (xa_svR (xa_svI (fun _ _ _ _ => by omega) xa_sv0))) ?_
  refine xa_meth (Q0 := (6, 2, false, 0, 0, 3)) (by decide +kernel) ⟨rfl, rfl⟩ (full := s_c_74) rfl rfl ?_
  intro hM hv Q hgo
  have hFt : F 0 < 99 → F 0 ≤ 10 := fun h => (hL.1.2.2 0 (by decide) (by decide) h).1
  have loop : ∀ (M2 : xa_M), F 0 < 99 → M2 16 4 = F 0 → (wp_Q (M 1 10) (M 5) (M 7) (M 8) F (F 0) (M2 18) (M2 19) (M2 20) (F 0)) → (∀ q j, ¬ (15 ≤ q ∧ q ≤ 24) → M2 q j = M q j) → ∀ (f : Nat) (w : Int) (M1 : xa_M), 0 ≤ w ∧ w ≤ M 1 9 → (∀ q j, ¬ (q = 15 ∧ j = 10) → ¬ (21 ≤ q ∧ q ≤ 24) → M1 q j = M2 q j) → (wf_W (M2 19) (M2 20) (M 2) (M 3) (F 0) (M1 15 10) (M1 21) (M1 22) (M1 23) (M1 24) w) → 14 - w < (f : Int) → Q 21 [(3, (0, 0, 0, 14, w)), (1, (2, 1, 0, 0, 0)), (0, (2, 15, 0, 0, 0))] [] M1 := by
    intro M2 h99 h16 hq2 hk2 f
    have hF10 : 0 ≤ F 0 ∧ F 0 ≤ 10 := by
      have := hFt h99
      omega
    induction f with
    | zero => intro w M1 w1 hk hW hms; clear hW hq2; omega
    | succ f ih =>
      intro w M1 w1 hk hW hms
      have g9 : M1 1 9 = M 1 9 := (hk 1 9 (by decide) (by decide)).trans (hk2 1 9 (by decide))
      have g4 : M1 16 4 = F 0 := (hk 16 4 (by decide) (by decide)).trans h16
      have e18 : M1 18 = M2 18 := funext (fun j => hk 18 j (by omega) (by omega))
      have e19 : M1 19 = M2 19 := funext (fun j => hk 19 j (by omega) (by omega))
      have e20 : M1 20 = M2 20 := funext (fun j => hk 20 j (by omega) (by omega))
      have e2 : M1 2 w = M 2 w := (hk 2 w (by omega) (by omega)).trans (hk2 2 w (by omega))
      have e3 : M1 3 w = M 3 w := (hk 3 w (by omega) (by omega)).trans (hk2 3 w (by omega))
      have b19 := wf_b01 (D := M2 19) (n := F 0) (w := w)
      have b20 := wf_b01 (D := M2 20) (n := F 0) (w := w)
      have gS : 0 ≤ M1 15 10 ∧ M1 15 10 ≤ w := by
        have := wf_sz (Dr := M2 19) (Dn := M2 20) (n := F 0) w.toNat
        rw [hW.1]
        omega
      refine hgo.2.2 _ _ _ _ (fun hM9 _ => ?_)
      have t3 : w < 14 → 0 ≤ M1 3 w ∧ M1 3 w ≤ 400 := fun h => by
        obtain ⟨n, rfl⟩ := Int.eq_ofNat_of_zero_le w1.1
        exact hM9 3 _ _ rfl n (show n < 14 by omega) (show (0 : Nat) < 2 by decide)
      refine hgo.1 66 [21] 21 _ _ _ ?_
      refine And.intro ?_ ?_
      · intro (c1 : (M1 1 9) ≤ w)
        show xa_wk post (some (0, 0, 1, 1, 1)) M1
        exact xa_wkI 1 rfl (fun _ _ => by omega) (k 1 _ (fun h => ⟨rfl, (hk 16 4 (by omega) (by omega)).trans h16, by rw [e18, e19, e20]; exact hq2, by rw [e19, e20, show M 1 9 = w by omega]; exact hW⟩) (fun h => by omega) (fun q j h => (hk q j (by omega) (by omega)).trans (hk2 q j h)))
      · intro (c1 : w < (M1 1 9))
        show xa_C (xl_I b) A h0 _ 81 [(2, 16, 0, 0, 0), (0, 0, 0, 14, w)] M1 _
        refine cx_81s e19 g4 hF10 ?_
        intro r107 (i2 : r107 = wf_b (M2 19) (F 0) w)
        show xa_C (xl_I b) A h0 _ 83 [(2, 16, 0, 0, 0), (0, 0, 0, 14, w)] M1 _
        refine cx_83s e20 g4 hF10 ?_
        intro r108 (i3 : r108 = wf_b (M2 20) (F 0) w)
        refine And.intro ?_ ?_
        · intro (c4 : ¬ r107 = 0)
          show xa_C (xl_I b) A h0 _ 18 [(2, 21, 0, 0, 0), (0, 0, (-2147483648), 2147483647, M1 15 10), (0, 0, 0, 14, w)] M1 _
          refine cx_18_21 (show 0 ≤ (M1 15 10) ∧ (M1 15 10) < 14 by omega) ?_
          refine And.intro ?_ ?_
          · intro (c5 : r107 = 0)
            exfalso
            omega
          · intro (c5 : ¬ r107 = 0)
            refine And.intro ?_ ?_
            · intro (c6 : r108 = 0)
              show xa_C (xl_I b) A h0 _ 18 [(2, 22, 0, 0, 0), (0, 0, (-2147483648), 2147483647, M1 15 10), (0, 0, 1, 1, 1 - 0)] (xa_up M1 21 (M1 15 10) w) _
              refine cx_18_22 (show 0 ≤ (M1 15 10) ∧ (M1 15 10) < 14 by omega) ?_
              show xa_C (xl_I b) A h0 _ 22 [(2, 1, 0, 0, 0), (0, 0, 0, 14, w)] (xa_up (xa_up M1 21 (M1 15 10) w) 22 (M1 15 10) (1 - 0)) _
              refine cx_22_1 (show 0 ≤ w ∧ w < 14 by omega) ?_
              show xa_C (xl_I b) A h0 _ 18 [(2, 23, 0, 0, 0), (0, 0, (-2147483648), 2147483647, M1 15 10), (0, 0, (-2147483648), 2147483647, M1 2 w)] (xa_up (xa_up M1 21 (M1 15 10) w) 22 (M1 15 10) (1 - 0)) _
              refine cx_18_23 (show 0 ≤ (M1 15 10) ∧ (M1 15 10) < 14 by omega) ?_
              show xa_C (xl_I b) A h0 _ 25 [(2, 1, 0, 0, 0), (0, 0, 0, 14, w)] (xa_up (xa_up (xa_up M1 21 (M1 15 10) w) 22 (M1 15 10) (1 - 0)) 23 (M1 15 10) (M1 2 w)) _
              refine cx_25_1 (show 0 ≤ w ∧ w < 14 by omega) ?_
              show xa_C (xl_I b) A h0 _ 18 [(2, 24, 0, 0, 0), (0, 0, (-2147483648), 2147483647, M1 15 10), (0, 0, 0, 400, M1 3 w)] (xa_up (xa_up (xa_up M1 21 (M1 15 10) w) 22 (M1 15 10) (1 - 0)) 23 (M1 15 10) (M1 2 w)) _
              refine cx_18_24 (show 0 ≤ (M1 15 10) ∧ (M1 15 10) < 14 by omega) (show 0 ≤ (M1 3 w) ∧ (M1 3 w) ≤ 400 by omega) ?_
              show Q 21 [(3, (0, 0, 1, 15, w + 1)), (5, (0, 0, 0, 1, r108)), (4, (0, 0, 0, 1, r107)), (1, (2, 1, 0, 0, 0)), (0, (2, 15, 0, 0, 0))] [] (xa_up (xa_up (xa_up (xa_up (xa_up M1 21 (M1 15 10) w) 22 (M1 15 10) (1 - 0)) 23 (M1 15 10) (M1 2 w)) 24 (M1 15 10) (M1 3 w)) 15 10 (xa_w32 ((M1 15 10) + 1)))
              have g15 : xa_w32 ((M1 15 10) + 1) = M1 15 10 + 1 := xa_w32_id (by omega) (by omega)
              have q15 : (xa_up (xa_up (xa_up (xa_up (xa_up M1 21 (M1 15 10) w) 22 (M1 15 10) (1 - 0)) 23 (M1 15 10) (M1 2 w)) 24 (M1 15 10) (M1 3 w)) 15 10 (xa_w32 ((M1 15 10) + 1))) 15 10 = M1 15 10 + 1 := (xa_up_eq).trans g15
              refine hgo.2.1 21 _ [(3, (0, 0, 0, 14, w + 1)), (1, (2, 1, 0, 0, 0)), (0, (2, 15, 0, 0, 0))] _ _ (xa_subI rfl rfl (fun _ _ _ _ => by omega) (xa_subR rfl (xa_subR rfl (xa_sub0)))) ?_
              exact ih (w + 1) (xa_up (xa_up (xa_up (xa_up (xa_up M1 21 (M1 15 10) w) 22 (M1 15 10) (1 - 0)) 23 (M1 15 10) (M1 2 w)) 24 (M1 15 10) (M1 3 w)) 15 10 (xa_w32 ((M1 15 10) + 1))) (by omega) (fun q j h1 h2 => (xa_up_ne (by omega)).trans ((xa_up_ne (by omega)).trans ((xa_up_ne (by omega)).trans ((xa_up_ne (by omega)).trans ((xa_up_ne (by omega)).trans (hk q j h1 h2)))))) (by
                rw [q15]
                exact wf_Wy w1.1 hW (by omega) (fun j => by
                  by_cases e : j = M1 15 10
                  · rw [if_pos e, e]
                    exact ((xa_up_ne (by omega)).trans ((xa_up_ne (by omega)).trans ((xa_up_ne (by omega)).trans ((xa_up_ne (by omega)).trans (xa_up_eq)))))
                  · rw [if_neg e]
                    exact (xa_up_ne (by omega)).trans ((xa_up_ne (by omega)).trans ((xa_up_ne (by omega)).trans ((xa_up_ne (by omega)).trans (xa_up_ne (by omega)))))) (fun j => by
                  by_cases e : j = M1 15 10
                  · rw [if_pos e, e]
                    exact ((xa_up_ne (by omega)).trans ((xa_up_ne (by omega)).trans ((xa_up_ne (by omega)).trans (xa_up_eq)))).trans (show (1 - 0 : Int) = wf_b (M2 19) (F 0) w - wf_b (M2 20) (F 0) w by omega)
                  · rw [if_neg e]
                    exact (xa_up_ne (by omega)).trans ((xa_up_ne (by omega)).trans ((xa_up_ne (by omega)).trans ((xa_up_ne (by omega)).trans (xa_up_ne (by omega)))))) (fun j => by
                  by_cases e : j = M1 15 10
                  · rw [if_pos e, e]
                    exact ((xa_up_ne (by omega)).trans ((xa_up_ne (by omega)).trans (xa_up_eq))).trans e2
                  · rw [if_neg e]
                    exact (xa_up_ne (by omega)).trans ((xa_up_ne (by omega)).trans ((xa_up_ne (by omega)).trans ((xa_up_ne (by omega)).trans (xa_up_ne (by omega)))))) (fun j => by
                  by_cases e : j = M1 15 10
                  · rw [if_pos e, e]
                    exact ((xa_up_ne (by omega)).trans (xa_up_eq)).trans e3
                  · rw [if_neg e]
                    exact (xa_up_ne (by omega)).trans ((xa_up_ne (by omega)).trans ((xa_up_ne (by omega)).trans ((xa_up_ne (by omega)).trans (xa_up_ne (by omega))))))) (by omega)
            · intro (c6 : ¬ r108 = 0)
              show xa_C (xl_I b) A h0 _ 18 [(2, 22, 0, 0, 0), (0, 0, (-2147483648), 2147483647, M1 15 10), (0, 0, 0, 0, 1 - 1)] (xa_up M1 21 (M1 15 10) w) _
              refine cx_18_22 (show 0 ≤ (M1 15 10) ∧ (M1 15 10) < 14 by omega) ?_
              show xa_C (xl_I b) A h0 _ 22 [(2, 1, 0, 0, 0), (0, 0, 0, 14, w)] (xa_up (xa_up M1 21 (M1 15 10) w) 22 (M1 15 10) (1 - 1)) _
              refine cx_22_1 (show 0 ≤ w ∧ w < 14 by omega) ?_
              show xa_C (xl_I b) A h0 _ 18 [(2, 23, 0, 0, 0), (0, 0, (-2147483648), 2147483647, M1 15 10), (0, 0, (-2147483648), 2147483647, M1 2 w)] (xa_up (xa_up M1 21 (M1 15 10) w) 22 (M1 15 10) (1 - 1)) _
              refine cx_18_23 (show 0 ≤ (M1 15 10) ∧ (M1 15 10) < 14 by omega) ?_
              show xa_C (xl_I b) A h0 _ 25 [(2, 1, 0, 0, 0), (0, 0, 0, 14, w)] (xa_up (xa_up (xa_up M1 21 (M1 15 10) w) 22 (M1 15 10) (1 - 1)) 23 (M1 15 10) (M1 2 w)) _
              refine cx_25_1 (show 0 ≤ w ∧ w < 14 by omega) ?_
              show xa_C (xl_I b) A h0 _ 18 [(2, 24, 0, 0, 0), (0, 0, (-2147483648), 2147483647, M1 15 10), (0, 0, 0, 400, M1 3 w)] (xa_up (xa_up (xa_up M1 21 (M1 15 10) w) 22 (M1 15 10) (1 - 1)) 23 (M1 15 10) (M1 2 w)) _
              refine cx_18_24 (show 0 ≤ (M1 15 10) ∧ (M1 15 10) < 14 by omega) (show 0 ≤ (M1 3 w) ∧ (M1 3 w) ≤ 400 by omega) ?_
              show Q 21 [(3, (0, 0, 1, 15, w + 1)), (5, (0, 0, 0, 1, r108)), (4, (0, 0, 0, 1, r107)), (1, (2, 1, 0, 0, 0)), (0, (2, 15, 0, 0, 0))] [] (xa_up (xa_up (xa_up (xa_up (xa_up M1 21 (M1 15 10) w) 22 (M1 15 10) (1 - 1)) 23 (M1 15 10) (M1 2 w)) 24 (M1 15 10) (M1 3 w)) 15 10 (xa_w32 ((M1 15 10) + 1)))
              have g15 : xa_w32 ((M1 15 10) + 1) = M1 15 10 + 1 := xa_w32_id (by omega) (by omega)
              have q15 : (xa_up (xa_up (xa_up (xa_up (xa_up M1 21 (M1 15 10) w) 22 (M1 15 10) (1 - 1)) 23 (M1 15 10) (M1 2 w)) 24 (M1 15 10) (M1 3 w)) 15 10 (xa_w32 ((M1 15 10) + 1))) 15 10 = M1 15 10 + 1 := (xa_up_eq).trans g15
              refine hgo.2.1 21 _ [(3, (0, 0, 0, 14, w + 1)), (1, (2, 1, 0, 0, 0)), (0, (2, 15, 0, 0, 0))] _ _ (xa_subI rfl rfl (fun _ _ _ _ => by omega) (xa_subR rfl (xa_subR rfl (xa_sub0)))) ?_
              exact ih (w + 1) (xa_up (xa_up (xa_up (xa_up (xa_up M1 21 (M1 15 10) w) 22 (M1 15 10) (1 - 1)) 23 (M1 15 10) (M1 2 w)) 24 (M1 15 10) (M1 3 w)) 15 10 (xa_w32 ((M1 15 10) + 1))) (by omega) (fun q j h1 h2 => (xa_up_ne (by omega)).trans ((xa_up_ne (by omega)).trans ((xa_up_ne (by omega)).trans ((xa_up_ne (by omega)).trans ((xa_up_ne (by omega)).trans (hk q j h1 h2)))))) (by
                rw [q15]
                exact wf_Wy w1.1 hW (by omega) (fun j => by
                  by_cases e : j = M1 15 10
                  · rw [if_pos e, e]
                    exact ((xa_up_ne (by omega)).trans ((xa_up_ne (by omega)).trans ((xa_up_ne (by omega)).trans ((xa_up_ne (by omega)).trans (xa_up_eq)))))
                  · rw [if_neg e]
                    exact (xa_up_ne (by omega)).trans ((xa_up_ne (by omega)).trans ((xa_up_ne (by omega)).trans ((xa_up_ne (by omega)).trans (xa_up_ne (by omega)))))) (fun j => by
                  by_cases e : j = M1 15 10
                  · rw [if_pos e, e]
                    exact ((xa_up_ne (by omega)).trans ((xa_up_ne (by omega)).trans ((xa_up_ne (by omega)).trans (xa_up_eq)))).trans (show (1 - 1 : Int) = wf_b (M2 19) (F 0) w - wf_b (M2 20) (F 0) w by omega)
                  · rw [if_neg e]
                    exact (xa_up_ne (by omega)).trans ((xa_up_ne (by omega)).trans ((xa_up_ne (by omega)).trans ((xa_up_ne (by omega)).trans (xa_up_ne (by omega)))))) (fun j => by
                  by_cases e : j = M1 15 10
                  · rw [if_pos e, e]
                    exact ((xa_up_ne (by omega)).trans ((xa_up_ne (by omega)).trans (xa_up_eq))).trans e2
                  · rw [if_neg e]
                    exact (xa_up_ne (by omega)).trans ((xa_up_ne (by omega)).trans ((xa_up_ne (by omega)).trans ((xa_up_ne (by omega)).trans (xa_up_ne (by omega)))))) (fun j => by
                  by_cases e : j = M1 15 10
                  · rw [if_pos e, e]
                    exact ((xa_up_ne (by omega)).trans (xa_up_eq)).trans e3
                  · rw [if_neg e]
                    exact (xa_up_ne (by omega)).trans ((xa_up_ne (by omega)).trans ((xa_up_ne (by omega)).trans ((xa_up_ne (by omega)).trans (xa_up_ne (by omega))))))) (by omega)
        · intro (c4 : r107 = 0)
          refine And.intro ?_ ?_
          · intro (c7 : r108 = 0)
            show Q 21 [(3, (0, 0, 1, 15, w + 1)), (5, (0, 0, 0, 1, r108)), (4, (0, 0, 0, 1, r107)), (1, (2, 1, 0, 0, 0)), (0, (2, 15, 0, 0, 0))] [] M1
            refine hgo.2.1 21 _ [(3, (0, 0, 0, 14, w + 1)), (1, (2, 1, 0, 0, 0)), (0, (2, 15, 0, 0, 0))] _ _ (xa_subI rfl rfl (fun _ _ _ _ => by omega) (xa_subR rfl (xa_subR rfl (xa_sub0)))) ?_
            exact ih (w + 1) M1 (by omega) (fun q j h1 h2 => hk q j h1 h2) (wf_Wn w1.1 hW (by omega)) (by omega)
          · intro (c7 : ¬ r108 = 0)
            show xa_C (xl_I b) A h0 _ 18 [(2, 21, 0, 0, 0), (0, 0, (-2147483648), 2147483647, M1 15 10), (0, 0, 0, 14, w)] M1 _
            refine cx_18_21 (show 0 ≤ (M1 15 10) ∧ (M1 15 10) < 14 by omega) ?_
            refine And.intro ?_ ?_
            · intro (c8 : r107 = 0)
              refine And.intro ?_ ?_
              · intro (c9 : r108 = 0)
                exfalso
                omega
              · intro (c9 : ¬ r108 = 0)
                show xa_C (xl_I b) A h0 _ 18 [(2, 22, 0, 0, 0), (0, 0, (-2147483648), 2147483647, M1 15 10), (0, 0, (-1), (-1), 0 - 1)] (xa_up M1 21 (M1 15 10) w) _
                refine cx_18_22 (show 0 ≤ (M1 15 10) ∧ (M1 15 10) < 14 by omega) ?_
                show xa_C (xl_I b) A h0 _ 22 [(2, 1, 0, 0, 0), (0, 0, 0, 14, w)] (xa_up (xa_up M1 21 (M1 15 10) w) 22 (M1 15 10) (0 - 1)) _
                refine cx_22_1 (show 0 ≤ w ∧ w < 14 by omega) ?_
                show xa_C (xl_I b) A h0 _ 18 [(2, 23, 0, 0, 0), (0, 0, (-2147483648), 2147483647, M1 15 10), (0, 0, (-2147483648), 2147483647, M1 2 w)] (xa_up (xa_up M1 21 (M1 15 10) w) 22 (M1 15 10) (0 - 1)) _
                refine cx_18_23 (show 0 ≤ (M1 15 10) ∧ (M1 15 10) < 14 by omega) ?_
                show xa_C (xl_I b) A h0 _ 25 [(2, 1, 0, 0, 0), (0, 0, 0, 14, w)] (xa_up (xa_up (xa_up M1 21 (M1 15 10) w) 22 (M1 15 10) (0 - 1)) 23 (M1 15 10) (M1 2 w)) _
                refine cx_25_1 (show 0 ≤ w ∧ w < 14 by omega) ?_
                show xa_C (xl_I b) A h0 _ 18 [(2, 24, 0, 0, 0), (0, 0, (-2147483648), 2147483647, M1 15 10), (0, 0, 0, 400, M1 3 w)] (xa_up (xa_up (xa_up M1 21 (M1 15 10) w) 22 (M1 15 10) (0 - 1)) 23 (M1 15 10) (M1 2 w)) _
                refine cx_18_24 (show 0 ≤ (M1 15 10) ∧ (M1 15 10) < 14 by omega) (show 0 ≤ (M1 3 w) ∧ (M1 3 w) ≤ 400 by omega) ?_
                show Q 21 [(3, (0, 0, 1, 15, w + 1)), (5, (0, 0, 0, 1, r108)), (4, (0, 0, 0, 1, r107)), (1, (2, 1, 0, 0, 0)), (0, (2, 15, 0, 0, 0))] [] (xa_up (xa_up (xa_up (xa_up (xa_up M1 21 (M1 15 10) w) 22 (M1 15 10) (0 - 1)) 23 (M1 15 10) (M1 2 w)) 24 (M1 15 10) (M1 3 w)) 15 10 (xa_w32 ((M1 15 10) + 1)))
                have g15 : xa_w32 ((M1 15 10) + 1) = M1 15 10 + 1 := xa_w32_id (by omega) (by omega)
                have q15 : (xa_up (xa_up (xa_up (xa_up (xa_up M1 21 (M1 15 10) w) 22 (M1 15 10) (0 - 1)) 23 (M1 15 10) (M1 2 w)) 24 (M1 15 10) (M1 3 w)) 15 10 (xa_w32 ((M1 15 10) + 1))) 15 10 = M1 15 10 + 1 := (xa_up_eq).trans g15
                refine hgo.2.1 21 _ [(3, (0, 0, 0, 14, w + 1)), (1, (2, 1, 0, 0, 0)), (0, (2, 15, 0, 0, 0))] _ _ (xa_subI rfl rfl (fun _ _ _ _ => by omega) (xa_subR rfl (xa_subR rfl (xa_sub0)))) ?_
                exact ih (w + 1) (xa_up (xa_up (xa_up (xa_up (xa_up M1 21 (M1 15 10) w) 22 (M1 15 10) (0 - 1)) 23 (M1 15 10) (M1 2 w)) 24 (M1 15 10) (M1 3 w)) 15 10 (xa_w32 ((M1 15 10) + 1))) (by omega) (fun q j h1 h2 => (xa_up_ne (by omega)).trans ((xa_up_ne (by omega)).trans ((xa_up_ne (by omega)).trans ((xa_up_ne (by omega)).trans ((xa_up_ne (by omega)).trans (hk q j h1 h2)))))) (by
                  rw [q15]
                  exact wf_Wy w1.1 hW (by omega) (fun j => by
                    by_cases e : j = M1 15 10
                    · rw [if_pos e, e]
                      exact ((xa_up_ne (by omega)).trans ((xa_up_ne (by omega)).trans ((xa_up_ne (by omega)).trans ((xa_up_ne (by omega)).trans (xa_up_eq)))))
                    · rw [if_neg e]
                      exact (xa_up_ne (by omega)).trans ((xa_up_ne (by omega)).trans ((xa_up_ne (by omega)).trans ((xa_up_ne (by omega)).trans (xa_up_ne (by omega)))))) (fun j => by
                    by_cases e : j = M1 15 10
                    · rw [if_pos e, e]
                      exact ((xa_up_ne (by omega)).trans ((xa_up_ne (by omega)).trans ((xa_up_ne (by omega)).trans (xa_up_eq)))).trans (show (0 - 1 : Int) = wf_b (M2 19) (F 0) w - wf_b (M2 20) (F 0) w by omega)
                    · rw [if_neg e]
                      exact (xa_up_ne (by omega)).trans ((xa_up_ne (by omega)).trans ((xa_up_ne (by omega)).trans ((xa_up_ne (by omega)).trans (xa_up_ne (by omega)))))) (fun j => by
                    by_cases e : j = M1 15 10
                    · rw [if_pos e, e]
                      exact ((xa_up_ne (by omega)).trans ((xa_up_ne (by omega)).trans (xa_up_eq))).trans e2
                    · rw [if_neg e]
                      exact (xa_up_ne (by omega)).trans ((xa_up_ne (by omega)).trans ((xa_up_ne (by omega)).trans ((xa_up_ne (by omega)).trans (xa_up_ne (by omega)))))) (fun j => by
                    by_cases e : j = M1 15 10
                    · rw [if_pos e, e]
                      exact ((xa_up_ne (by omega)).trans (xa_up_eq)).trans e3
                    · rw [if_neg e]
                      exact (xa_up_ne (by omega)).trans ((xa_up_ne (by omega)).trans ((xa_up_ne (by omega)).trans ((xa_up_ne (by omega)).trans (xa_up_ne (by omega))))))) (by omega)
            · intro (c8 : ¬ r107 = 0)
              exfalso
              omega
  refine hgo.1 16 [21] 0 _ _ _ ?_
  show xa_C (xl_I b) A h0 _ 75 [(2, 16, 0, 0, 0), (2, 1, 0, 0, 0), (0, 0, (-2147483648), 2147483647, X)] (xa_up M 15 10 0) _
  refine cx_75s hL hX hn hr ha hF9 ?_
  intro r110 M109 (i1 : F 0 < 99 → r110 = 1 ∧ M109 16 4 = F 0 ∧ (wp_Q (M 1 10) (M 5) (M 7) (M 8) F (F 0) (M109 18) (M109 19) (M109 20) (F 0))) (i2 : 99 ≤ F 0 → r110 = 0) (i3 : ∀ q j, ¬ q = 16 → ¬ q = 17 → ¬ q = 18 → ¬ q = 19 → ¬ q = 20 → M109 q j = (xa_up M 15 10 0) q j)
  refine And.intro ?_ ?_
  · intro (c4 : ¬ r110 = 0)
    show Q 21 [(3, (0, 0, 0, 0, 0)), (0, (2, 15, 0, 0, 0)), (1, (2, 1, 0, 0, 0)), (2, (0, 0, (-2147483648), 2147483647, X))] [] M109
    have h99 : F 0 < 99 := by
      by_cases c : F 0 < 99
      · exact c
      · have := i2 (by omega)
        omega
    have h16 := (i1 h99).2.1
    have hq2 := (i1 h99).2.2
    have hk2 : ∀ q j, ¬ (15 ≤ q ∧ q ≤ 24) → M109 q j = M q j := fun q j h => (i3 q j (by omega) (by omega) (by omega) (by omega) (by omega)).trans (xa_up_ne (by omega))
    have hz : M109 15 10 = 0 := (i3 15 10 (by decide) (by decide) (by decide) (by decide) (by decide)).trans xa_up_eq
    refine hgo.2.1 21 _ [(3, (0, 0, 0, 14, 0)), (1, (2, 1, 0, 0, 0)), (0, (2, 15, 0, 0, 0))] _ _ (xa_subI rfl rfl (fun _ _ _ _ => by omega) (xa_subR rfl (xa_subR rfl (xa_sub0)))) ?_
    exact loop M109 h99 h16 hq2 hk2 15 0 M109 (by omega) (fun _ _ _ _ => rfl) (wf_W0 hz) (by omega)
  · intro (c4 : r110 = 0)
    show xa_wk post (some (0, 0, 0, 0, 0)) M109
    exact xa_wkI 0 rfl (fun _ _ => by omega) (k 0 _ (fun h => by have := (i1 h).1; omega) (fun _ => rfl) (fun q j h => (i3 q j (by omega) (by omega) (by omega) (by omega) (by omega)).trans (xa_up_ne (by omega))))
-- the way of a fitting and what fits, told by the reference's numbers (for both sides)
set_option maxRecDepth 20000
/-- what holds of the numbers of wheels and meshes -/
def tk_M (M : xa_M) : Prop := (0 ≤ M 60 0 ∧ M 60 0 ≤ 14) ∧ (0 ≤ M 60 6 ∧ M 60 6 ≤ 16) ∧ (∀ i, 0 ≤ i → i < M 60 6 → (0 ≤ M 66 i ∧ M 66 i < M 60 0) ∧ (0 ≤ M 67 i ∧ M 67 i < M 60 0)) ∧ (∀ w, 0 ≤ w → w < 14 → 0 ≤ M 64 w ∧ M 64 w < 10) ∧ ∀ w, 0 ≤ w → w < M 60 0 → 10 ≤ M 61 w ∧ M 61 w ≤ M 62 w ∧ M 62 w ≤ 400
theorem tk_M_of {M : xa_M} (hM : xa_Mok xm_I M) (hI : xm_Inv M) : tk_M M := by
  have b0 := xm_f0 hM
  have b6 := xm_f6 hM
  refine ⟨b0, b6, fun i i0 i1 => ?_, fun w w0 w1 => ?_, fun w w0 w1 => ?_⟩
  · have h := hI.2.1 i i0 i1
    have t66 := xm_t66 hM i i0 (by omega)
    have t67 := xm_t67 hM i i0 (by omega)
    omega
  · have t := xm_t64 hM w w0 w1
    omega
  · have h := hI.1 w w0 w1
    have t := xm_t62 hM w w0 (by omega)
    omega
theorem tk_AB {M : xa_M} (h : tk_M M) (i : Int) (i0 : 0 ≤ i) (i1 : i < M 60 6) : (0 ≤ M 64 (M 66 i) ∧ M 64 (M 66 i) < 10) ∧ (0 ≤ M 64 (M 67 i) ∧ M 64 (M 67 i) < 10) := by
  obtain ⟨h1, h2, h3, h4, -⟩ := h
  have a := h3 i i0 i1
  exact ⟨h4 _ a.1.1 (by omega), h4 _ a.2.1 (by omega)⟩
def tk_Y (M : xa_M) (X : Int) (F : Int → Int) : Prop := wy_L (M 60 6) (fun i => M 64 (M 66 i)) (fun i => M 64 (M 67 i)) F X ∧ ∀ a, 0 ≤ a → a < 10 → 0 ≤ F a
def tk_D (M : xa_M) (X s : Int) (W R F P Dr Dn : Int → Int) : Prop := tk_Y M X F ∧ F 0 < 99 ∧ wp_Q (M 60 6) (M 64) (M 66) (M 67) F (F 0) P Dr Dn (F 0) ∧ wf_W Dr Dn (M 61) (M 62) (F 0) s W R (fun i => M 61 (W i)) (fun i => M 62 (W i)) (M 60 0)
/-- the list of the wheels of the way, and their roles -/
def tk_L (M : xa_M) (X s : Int) (W R : Int → Int) : Prop := ∃ F P Dr Dn : Int → Int, tk_D M X s W R F P Dr Dn
/-- there is no way -/
def tk_N (M : xa_M) (X : Int) : Prop := ∃ F : Int → Int, tk_Y M X F ∧ 99 ≤ F 0
theorem tk_NL {M : xa_M} {X s : Int} {W R : Int → Int} (hM : tk_M M) (hX : 0 ≤ X ∧ X < 10) (h1 : tk_N M X) (h2 : tk_L M X s W R) : False := by
  obtain ⟨F, ⟨hF, f0⟩, f9⟩ := h1
  obtain ⟨G, P, Dr, Dn, ⟨hG, g0⟩, g9, -⟩ := h2
  have h := (wy_one (a := 0) hX (fun i i0 i1 => tk_AB hM i i0 i1) hF hG (by decide) (by decide) (f0 0 (by decide) (by decide)) (g0 0 (by decide) (by decide))).2 f9
  omega
theorem tk_E {M : xa_M} {X : Int} {F G : Int → Int} (hM : tk_M M) (hX : 0 ≤ X ∧ X < 10) (hF : tk_Y M X F) (hG : tk_Y M X G) : (F 0 < 99 → G 0 = F 0) ∧ wz_E (M 60 6) (M 64) (M 66) (M 67) F (M 64) (M 66) (M 67) G := by
  have one := fun (a : Int) (a0 : 0 ≤ a) (a1 : a < 10) => wy_one (a := a) hX (fun i i0 i1 => tk_AB hM i i0 i1) hF.1 hG.1 a0 a1 (hF.2 a a0 a1) (hG.2 a a0 a1)
  refine ⟨(one 0 (by decide) (by decide)).1, fun i i0 i1 => ⟨rfl, rfl, rfl, rfl⟩, fun i i0 i1 l hl => ?_⟩
  have hab := tk_AB hM i i0 i1
  have key : ∀ a : Int, 0 ≤ a → a < 10 → (G a = l - 1 ↔ F a = l - 1) := fun a a0 a1 => by
    obtain ⟨o1, o2⟩ := one a a0 a1
    by_cases c : F a < 99
    · rw [o1 c]
    · have h9 := o2 (by omega)
      constructor <;> (intro h; omega)
  exact ⟨key _ hab.1.1 hab.1.2, key _ hab.2.1 hab.2.2⟩
theorem tk_dd {M : xa_M} {X s s' : Int} {W R W' R' F P Dr Dn F' P' Dr' Dn' : Int → Int} (hM : tk_M M) (hX : 0 ≤ X ∧ X < 10) (h : tk_D M X s W R F P Dr Dn) (h' : tk_D M X s' W' R' F' P' Dr' Dn') : F' 0 = F 0 ∧ ∀ k : Int, 0 ≤ k → k < F 0 → P' k = P k ∧ Dr' k = Dr k ∧ Dn' k = Dn k := by
  obtain ⟨hF, f9, hQ, -⟩ := h
  obtain ⟨hF', -, hQ', -⟩ := h'
  obtain ⟨e, hE⟩ := tk_E hM hX hF hF'
  have e := e f9
  have hle : F 0 ≤ 10 := (hF.1.1.2.2 0 (by decide) (by decide) f9).1
  rw [e] at hQ'
  have hQ2 := wz_Q hE (by omega) hQ'
  refine ⟨e, fun k k0 k1 => ?_⟩
  exact wz_one hQ2 hQ k.toNat k k0 k1 (by omega)
/-- the list is one -/
theorem tk_one {M : xa_M} {X s s' : Int} {W R W' R' : Int → Int} (hM : tk_M M) (hX : 0 ≤ X ∧ X < 10) (h : tk_L M X s W R) (h' : tk_L M X s' W' R') : s' = s ∧ ∀ i : Int, 0 ≤ i → i < s → W' i = W i ∧ R' i = R i := by
  obtain ⟨F, P, Dr, Dn, h⟩ := h
  obtain ⟨F', P', Dr', Dn', h'⟩ := h'
  obtain ⟨e, hD⟩ := tk_dd hM hX h h'
  obtain ⟨-, -, -, hW⟩ := h
  obtain ⟨-, -, -, hW'⟩ := h'
  rw [e] at hW'
  obtain ⟨e1, -, e2⟩ := wz_W (f := wf_g Dr Dn (F 0)) (g := fun w => wf_b Dr (F 0) w - wf_b Dn (F 0) w) (T := W) (U := R) hM.1.1 hM.1.2 (fun k k0 k1 => (hD k k0 k1).2) hW' (fun w _ _ => ⟨rfl, rfl⟩) hW.1 (fun w w0 w1 w2 => ⟨(hW.2 w w0 w1 w2).1, (hW.2 w w0 w1 w2).2.1⟩)
  exact ⟨e1, fun i i0 i1 => ⟨(e2 i i0 (by omega)).1, (e2 i i0 (by omega)).2.1⟩⟩
theorem tk_dr {M : xa_M} {X s : Int} {W R F P Dr Dn : Int → Int} (hM : tk_M M) (h : tk_D M X s W R F P Dr Dn) (k : Int) (k0 : 0 ≤ k) (k1 : k < F 0) : (0 ≤ Dr k ∧ Dr k < M 60 0) ∧ (0 ≤ Dn k ∧ Dn k < M 60 0) := by
  obtain ⟨-, -, hQ, -⟩ := h
  obtain ⟨p1, -, -, p2⟩ := hQ k k0 k1
  have a := hM.2.2.1 (P k) p1.1 p1.2
  rcases p2 with ⟨-, e1, e2⟩ | ⟨-, e1, e2⟩
  · rw [e1, e2]
    exact a
  · rw [e1, e2]
    exact ⟨a.2, a.1⟩
theorem tk_lst {M : xa_M} {X s : Int} {W R : Int → Int} (hM : tk_M M) (hX : 1 ≤ X ∧ X < 10) (h : tk_L M X s W R) : (1 ≤ s ∧ s ≤ 14) ∧ fb_B R s ∧ ∀ i : Int, 0 ≤ i → i < s → (0 ≤ W i ∧ W i < M 60 0) ∧ (10 ≤ M 61 (W i) ∧ M 61 (W i) ≤ M 62 (W i) ∧ M 62 (W i) ≤ 400) := by
  obtain ⟨F, P, Dr, Dn, h⟩ := h
  have hdr := tk_dr hM h
  obtain ⟨⟨hF, f0⟩, f9, hQ, hW⟩ := h
  have F0 : 1 ≤ F 0 := hF.1.2.1 0 (by decide) (by decide) (by omega)
  have ex : (((M 60 0).toNat : Nat) : Int) = M 60 0 := Int.toNat_of_nonneg hM.1.1
  have d1 : ∀ i j : Int, 0 ≤ i → i < F 0 → 0 ≤ j → j < F 0 → Dr i = Dr j → i = j := fun i j i0 i1 j0 j1 => (wp_inj hQ rfl i0 i1 j0 j1).1
  have d2 : ∀ i j : Int, 0 ≤ i → i < F 0 → 0 ≤ j → j < F 0 → Dn i = Dn j → i = j := fun i j i0 i1 j0 j1 => (wp_inj hQ rfl i0 i1 j0 j1).2
  obtain ⟨-, e2, e3⟩ := wz_W (f := wf_g Dr Dn (F 0)) (g := fun w => wf_b Dr (F 0) w - wf_b Dn (F 0) w) (T := W) (U := R) hM.1.1 hM.1.2 (fun k _ _ => ⟨rfl, rfl⟩) hW (fun w _ _ => ⟨rfl, rfl⟩) hW.1 (fun w w0 w1 w2 => ⟨(hW.2 w w0 w1 w2).1, (hW.2 w w0 w1 w2).2.1⟩)
  have g1 : wf_g Dr Dn (F 0) (Dr 0) = 1 := wf_g1.mpr (Or.inl ((wf_b1 (by omega)).mpr ⟨0, by omega, by omega, rfl⟩))
  have hd0 := hdr 0 (by omega) (by omega)
  have er : (((Dr 0).toNat : Nat) : Int) = Dr 0 := Int.toNat_of_nonneg hd0.1.1
  have q1 : wq_s (wf_g Dr Dn (F 0)) ((Dr 0).toNat + 1) ≤ wq_s (wf_g Dr Dn (F 0)) (M 60 0).toNat := wq_sm _ _ (by omega) (fun i _ _ => by have := wf_g01 (Dr := Dr) (Dn := Dn) (n := F 0) (w := i); omega)
  rw [wq_s1, er, g1] at q1
  have q2 := (wf_sz (Dr := Dr) (Dn := Dn) (n := F 0) (Dr 0).toNat).1
  have hs := hW.1
  refine ⟨⟨by omega, e2.2⟩, fun V m hm hV => wb_B (n := F 0) (x := (M 60 0).toNat) (by omega) (by have := hM.1; omega) (fun k k0 k1 => by have := hdr k k0 k1; omega) d1 d2 (by rw [ex]; exact hW) V m hm hV, fun i i0 i1 => ?_⟩
  have g := e3 i i0 i1
  exact ⟨⟨g.2.2.2.2.1, g.2.2.2.2.2⟩, hM.2.2.2.2 _ g.2.2.2.2.1 g.2.2.2.2.2⟩
theorem tk_inj {M : xa_M} {X s : Int} {W R : Int → Int} (hM : tk_M M) (h : tk_L M X s W R) (i j : Int) (i0 : 0 ≤ i) (i1 : i < s) (j0 : 0 ≤ j) (j1 : j < s) (e : W i = W j) : i = j := by
  obtain ⟨F, P, Dr, Dn, -, -, -, hW⟩ := h
  have hx := hM.1
  have key : ∀ k : Int, 0 ≤ k → k < s → wq_s (wf_g Dr Dn (F 0)) (W k).toNat = k := fun k k0 k1 => by
    rw [hW.1] at k1
    obtain ⟨w, w0, w1, w2, w3⟩ := wz_iv (M 60 0).toNat (fun w _ _ => wf_g01) k k0 k1
    have g := (hW.2 w w0 (by omega) w2).1
    rw [w3] at g
    rw [g]
    exact w3
  have a := key i i0 i1
  have b := key j j0 j1
  rw [e] at a
  omega
-- what the reference finds
theorem tk_L_ref {M M1 : xa_M} {X : Int} (hM : tk_M M) (hMk : xa_Mok xm_I M1) (h : wv_Q M X M1 1) : tk_L M X (M1 60 32) (M1 80) (M1 81) := by
  obtain ⟨hL, h⟩ := h
  rcases h with ⟨-, hD, hW⟩ | ⟨h, -⟩
  · have h0 : ∀ a, 0 ≤ a → a < 10 → 0 ≤ M1 78 a := fun a a0 a1 => (xm_t78 hMk a a0 a1).1
    obtain ⟨Dr, Dn, hQ, hg⟩ := wf_gv hD (h0 0 (by decide) (by decide))
    have hx := hM.1
    refine ⟨M1 78, M1 79, Dr, Dn, ⟨hL, h0⟩, hD.2.1, hQ, ?_, fun w w0 w1 w2 => ?_⟩
    · rw [hW.1]
      exact wq_se _ (fun i i0 i1 => (hg i i0 (by omega)).1)
    · have es : wq_s (wf_g Dr Dn (M1 78 0)) w.toNat = wq_s (M1 83) w.toNat := (wq_se _ (fun i i0 i1 => (hg i i0 (by omega)).1)).symm
      have g := hW.2 w w0 w1 (by rw [(hg w w0 (by omega)).1]; exact w2)
      rw [es]
      refine ⟨g.1, by rw [g.2, (hg w w0 (by omega)).2], ?_, ?_⟩
      · show M 61 (M1 80 (wq_s (M1 83) w.toNat)) = M 61 w
        rw [g.1]
      · show M 62 (M1 80 (wq_s (M1 83) w.toNat)) = M 62 w
        rw [g.1]
  · omega
theorem tk_N_ref {M M1 : xa_M} {X : Int} (hMk : xa_Mok xm_I M1) (h : wv_Q M X M1 0) : tk_N M X := by
  obtain ⟨hL, h⟩ := h
  rcases h with ⟨h, -⟩ | ⟨-, h9⟩
  · omega
  · exact ⟨M1 78, ⟨hL, fun a a0 a1 => (xm_t78 hMk a a0 a1).1⟩, h9⟩
-- what the class finds
/-- the class's numbers are the reference's -/
def tk_R (C M : xa_M) : Prop := C 1 9 = M 60 0 ∧ C 1 10 = M 60 6 ∧ (∀ i, 0 ≤ i → i < 14 → C 2 i = M 61 i ∧ C 3 i = M 62 i ∧ C 5 i = M 64 i ∧ C 6 i = M 65 i) ∧ ∀ i, 0 ≤ i → i < 16 → C 7 i = M 66 i ∧ C 8 i = M 67 i
theorem tk_R_F {C M : xa_M} {X : Int} {F : Int → Int} (hM : tk_M M) (hR : tk_R C M) (hF : tk_Y M X F) : wy_L (C 1 10) (fun i => C 5 (C 7 i)) (fun i => C 5 (C 8 i)) F X := by
  obtain ⟨r1, r2, r3, r4⟩ := hR
  have b0 := hM.1
  have b6 := hM.2.1
  refine wy_L_k r2 (fun i i0 i1 => ?_) hF.1
  obtain ⟨g7, g8⟩ := r4 i i0 (by omega)
  have t := hM.2.2.1 i i0 i1
  refine ⟨?_, ?_⟩
  · show C 5 (C 7 i) = M 64 (M 66 i)
    rw [g7]
    exact (r3 _ t.1.1 (by omega)).2.2.1
  · show C 5 (C 8 i) = M 64 (M 67 i)
    rw [g8]
    exact (r3 _ t.2.1 (by omega)).2.2.1
theorem tk_R_m {C M : xa_M} (hM : tk_M M) (hR : tk_R C M) : (0 ≤ C 1 10 ∧ C 1 10 ≤ 16) ∧ (∀ k, 0 ≤ k → k < C 1 10 → (0 ≤ C 7 k ∧ C 7 k < 14) ∧ (0 ≤ C 8 k ∧ C 8 k < 14)) ∧ (∀ w, 0 ≤ w → w < 14 → 0 ≤ C 5 w ∧ C 5 w < 10) ∧ (0 ≤ C 1 9 ∧ C 1 9 ≤ 14) := by
  obtain ⟨r1, r2, r3, r4⟩ := hR
  have b0 := hM.1
  have b6 := hM.2.1
  refine ⟨by omega, fun k k0 k1 => ?_, fun w w0 w1 => ?_, by omega⟩
  · obtain ⟨g7, g8⟩ := r4 k k0 (by omega)
    have t := hM.2.2.1 k k0 (by omega)
    omega
  · have t := hM.2.2.2.1 w w0 w1
    have g := (r3 w w0 w1).2.2.1
    omega
theorem tk_L_cls {C M : xa_M} {X s : Int} {F P Dr Dn W R L H : Int → Int} (hM : tk_M M) (hR : tk_R C M) (hF : tk_Y M X F) (h9 : F 0 < 99) (hQ : wp_Q (C 1 10) (C 5) (C 7) (C 8) F (F 0) P Dr Dn (F 0)) (hW : wf_W Dr Dn (C 2) (C 3) (F 0) s W R L H (C 1 9)) : tk_L M X s W R ∧ ∀ i : Int, 0 ≤ i → i < s → L i = M 61 (W i) ∧ H i = M 62 (W i) := by
  obtain ⟨r1, r2, r3, r4⟩ := hR
  have b0 := hM.1
  have b6 := hM.2.1
  have hle : F 0 ≤ 10 := (hF.1.1.2.2 0 (by decide) (by decide) h9).1
  rw [r2] at hQ
  rw [r1] at hW
  have hE : wz_E (M 60 6) (M 64) (M 66) (M 67) F (C 5) (C 7) (C 8) F := by
    refine ⟨fun i i0 i1 => ?_, fun i _ _ l _ => ⟨Iff.rfl, Iff.rfl⟩⟩
    obtain ⟨g7, g8⟩ := r4 i i0 (by omega)
    have t := hM.2.2.1 i i0 i1
    exact ⟨g7, g8, (r3 _ t.1.1 (by omega)).2.2.1, (r3 _ t.2.1 (by omega)).2.2.1⟩
  have hQ2 := wz_Q hE (by omega) hQ
  have hW2 : wf_W Dr Dn (M 61) (M 62) (F 0) s W R (fun i => M 61 (W i)) (fun i => M 62 (W i)) (M 60 0) := by
    refine ⟨hW.1, fun w w0 w1 w2 => ?_⟩
    have g := hW.2 w w0 w1 w2
    refine ⟨g.1, g.2.1, ?_, ?_⟩
    · show M 61 (W (wq_s (wf_g Dr Dn (F 0)) w.toNat)) = M 61 w
      rw [g.1]
    · show M 62 (W (wq_s (wf_g Dr Dn (F 0)) w.toNat)) = M 62 w
      rw [g.1]
  refine ⟨⟨F, P, Dr, Dn, hF, h9, hQ2, hW2⟩, fun i i0 i1 => ?_⟩
  obtain ⟨-, -, e3⟩ := wz_W (f := wf_g Dr Dn (F 0)) (g := fun w => wf_b Dr (F 0) w - wf_b Dn (F 0) w) (T := W) (U := R) hM.1.1 hM.1.2 (fun k _ _ => ⟨rfl, rfl⟩) hW (fun w _ _ => ⟨rfl, rfl⟩) hW.1 (fun w w0 w1 w2 => ⟨(hW.2 w w0 w1 w2).1, (hW.2 w w0 w1 w2).2.1⟩)
  obtain ⟨-, -, a, b, c, d⟩ := e3 i i0 i1
  have g := r3 (W i) c (by omega)
  rw [a, b]
  exact ⟨g.1, g.2.1⟩
-- what hangs on the first numbers alone
theorem fs_pr_e {L H L' H' : Int → Int} (n : Nat) : (∀ i : Int, 0 ≤ i → i < n → L' i = L i ∧ H' i = H i) → fs_pr L' H' n = fs_pr L H n := by
  induction n with
  | zero => intro _; rfl
  | succ n ih =>
    intro h
    show fs_pr L' H' n * (H' n - L' n + 1) = fs_pr L H n * (H n - L n + 1)
    rw [ih (fun i i0 i1 => h i i0 (by omega)), (h n (by omega) (by omega)).1, (h n (by omega) (by omega)).2]
theorem fs_rk_e2 {L H L' H' V : Int → Int} (n : Nat) : (∀ i : Int, 0 ≤ i → i < n → L' i = L i ∧ H' i = H i) → fs_rk L' H' V n = fs_rk L H V n := by
  induction n with
  | zero => intro _; rfl
  | succ n ih =>
    intro h
    show fs_rk L' H' V n * (H' n - L' n + 1) + (V n - L' n) = fs_rk L H V n * (H n - L n + 1) + (V n - L n)
    rw [ih (fun i i0 i1 => h i i0 (by omega)), (h n (by omega) (by omega)).1, (h n (by omega) (by omega)).2]
theorem fs_ud_e2 {R R' V : Int → Int} (n : Nat) : (∀ i : Int, 0 ≤ i → i < n → R' i = R i) → fs_u R' V n = fs_u R V n ∧ fs_d R' V n = fs_d R V n := by
  induction n with
  | zero => intro _; exact ⟨rfl, rfl⟩
  | succ n ih =>
    intro h
    have g := ih (fun i i0 i1 => h i i0 (by omega))
    rw [fs_u1, fs_u1, fs_d1, fs_d1, g.1, g.2, h n (by omega) (by omega)]
    exact ⟨rfl, rfl⟩
theorem fs_in_e {L H L' H' V : Int → Int} {n : Nat} (h : ∀ i : Int, 0 ≤ i → i < n → L' i = L i ∧ H' i = H i) (g : fs_in L H V n) : fs_in L' H' V n := fun i i0 i1 => by
  have a := h i i0 i1
  have b := g i i0 i1
  omega
theorem fs_F_i {L H R L' H' R' : Int → Int} {s : Nat} {a b k : Int} (h : ∀ i : Int, 0 ≤ i → i < s → L' i = L i ∧ H' i = H i ∧ R' i = R i) (g : fs_F L H R s a b k) : fs_F L' H' R' s a b k := by
  obtain ⟨V, g1, g2, g3⟩ := g
  obtain ⟨e1, e2⟩ := fs_ud_e2 (R := R) (R' := R') (V := V) s (fun i i0 i1 => (h i i0 i1).2.2)
  exact ⟨V, fs_in_e (fun i i0 i1 => ⟨(h i i0 i1).1, (h i i0 i1).2.1⟩) g1, by rw [fs_rk_e2 s (fun i i0 i1 => ⟨(h i i0 i1).1, (h i i0 i1).2.1⟩)]; exact g2, by rw [e1, e2]; exact g3⟩
theorem fs_F_e {L H R L' H' R' : Int → Int} {s : Nat} {a b : Int} (h : ∀ i : Int, 0 ≤ i → i < s → L' i = L i ∧ H' i = H i ∧ R' i = R i) : fs_F L' H' R' s a b = fs_F L H R s a b := by
  funext k
  refine propext ⟨fs_F_i (fun i i0 i1 => ?_), fs_F_i h⟩
  have g := h i i0 i1
  exact ⟨g.1.symm, g.2.1.symm, g.2.2.symm⟩
theorem fs_F_g {L H R : Int → Int} {s : Nat} {g a b : Int} (hg : g ≠ 0) : fs_F L H R s (g * a) (g * b) = fs_F L H R s a b := by
  funext k
  refine propext ⟨?_, ?_⟩
  · rintro ⟨V, g1, g2, g3⟩
    exact ⟨V, g1, g2, (fs_g hg).mp g3⟩
  · rintro ⟨V, g1, g2, g3⟩
    exact ⟨V, g1, g2, (fs_g hg).mpr g3⟩
-- what fits to a period
def tk_F (M : xa_M) (s : Int) (W R : Int → Int) (p : Int) : Int → Prop := fs_F (fun i => M 61 (W i)) (fun i => M 62 (W i)) R s.toNat (M 71 p) (M 70 p)
def tk_pr (M : xa_M) (s : Int) (W : Int → Int) : Int := fs_pr (fun i => M 61 (W i)) (fun i => M 62 (W i)) s.toNat
def tk_rk (M : xa_M) (s : Int) (W V : Int → Int) : Int := fs_rk (fun i => M 61 (W i)) (fun i => M 62 (W i)) V s.toNat
def tk_in (M : xa_M) (s : Int) (W V : Int → Int) : Prop := fs_in (fun i => M 61 (W i)) (fun i => M 62 (W i)) V s.toNat
theorem tk_e {M : xa_M} {s : Int} {W R W' R' : Int → Int} (h : ∀ i : Int, 0 ≤ i → i < s → W' i = W i ∧ R' i = R i) : (∀ p, tk_F M s W' R' p = tk_F M s W R p) ∧ tk_pr M s W' = tk_pr M s W ∧ (∀ V, tk_rk M s W' V = tk_rk M s W V) ∧ ∀ V, tk_in M s W' V → tk_in M s W V := by
  have e : ∀ i : Int, 0 ≤ i → i < (s.toNat : Int) → M 61 (W' i) = M 61 (W i) ∧ M 62 (W' i) = M 62 (W i) := fun i i0 i1 => by
    rw [(h i i0 (by omega)).1]
    exact ⟨rfl, rfl⟩
  refine ⟨fun p => fs_F_e (fun i i0 i1 => ⟨(e i i0 i1).1, (e i i0 i1).2, (h i i0 (by omega)).2⟩), fs_pr_e _ e, fun V => fs_rk_e2 _ e, fun V g => fs_in_e (fun i i0 i1 => ⟨(e i i0 i1).1.symm, (e i i0 i1).2.symm⟩) g⟩
/-- what stands ahead of a search -/
def tk_S (M : xa_M) (X p r s : Int) (W R : Int → Int) : Prop := (¬ ((1 ≤ X ∧ X ≤ 9) ∧ 0 ≤ p ∧ p < M 60 11) ∧ r = -1) ∨ (((1 ≤ X ∧ X ≤ 9) ∧ 0 ≤ p ∧ p < M 60 11) ∧ ((tk_N M X ∧ r = -2) ∨ (tk_L M X s W R ∧ ((200000 < tk_pr M s W ∧ r = -4) ∨ (tk_pr M s W ≤ 200000 ∧ r = 0)))))
theorem tk_S_one {M : xa_M} {X p r s r' s' : Int} {W R W' R' : Int → Int} (hM : tk_M M) (h : tk_S M X p r s W R) (h' : tk_S M X p r' s' W' R') : r' = r ∧ (r = 0 ∨ r = -4 → s' = s ∧ ∀ i : Int, 0 ≤ i → i < s → W' i = W i ∧ R' i = R i) := by
  rcases h with ⟨n1, e1⟩ | ⟨c1, h⟩
  · rcases h' with ⟨-, e2⟩ | ⟨c2, -⟩
    · exact ⟨by omega, fun h => by omega⟩
    · exact absurd c2 n1
  · rcases h' with ⟨n2, -⟩ | ⟨-, h'⟩
    · exact absurd c1 n2
    · have hX : 0 ≤ X ∧ X < 10 := by omega
      rcases h with ⟨hN, e1⟩ | ⟨hL, h⟩
      · rcases h' with ⟨-, e2⟩ | ⟨hL', -⟩
        · exact ⟨by omega, fun h => by omega⟩
        · exact (tk_NL hM hX hN hL').elim
      · rcases h' with ⟨hN', -⟩ | ⟨hL', h'⟩
        · exact (tk_NL hM hX hN' hL).elim
        · obtain ⟨es, eW⟩ := tk_one hM hX hL hL'
          have es := es.symm
          subst es
          have ep := (tk_e (M := M) eW).2.1
          refine ⟨?_, fun _ => ⟨rfl, eW⟩⟩
          rw [ep] at h'
          omega
/-- what fit leaves of the teeth taken -/
def tk_T (M : xa_M) (X p n r : Int) (T : Int → Int) : Prop := (n < 0 ∧ r = 0 ∧ ∀ w : Int, 0 ≤ w → w < 14 → T w = M 63 w) ∨ (0 ≤ n ∧ ∃ (e s : Int) (W R : Int → Int), tk_S M X p e s W R ∧ ((¬ e = 0 ∧ r = 0 ∧ ∀ w : Int, 0 ≤ w → w < 14 → T w = M 63 w) ∨ (e = 0 ∧ ((r = 0 ∧ fs_c (tk_F M s W R p) (tk_pr M s W).toNat ≤ n ∧ ∀ w : Int, 0 ≤ w → w < 14 → T w = M 63 w) ∨ (r = 1 ∧ ∃ V : Int → Int, tk_in M s W V ∧ tk_F M s W R p (tk_rk M s W V) ∧ fs_c (tk_F M s W R p) (tk_rk M s W V).toNat = n ∧ (∀ j : Int, 0 ≤ j → j < s → T (W j) = V j) ∧ ∀ w : Int, 0 ≤ w → w < 14 → (∀ j : Int, 0 ≤ j → j < s → ¬ W j = w) → T w = M 63 w)))))
theorem tk_end {M : xa_M} {s p n : Int} {W R V : Int → Int} (hin : tk_in M s W V) (hF : tk_F M s W R p (tk_rk M s W V)) (hc : fs_c (tk_F M s W R p) (tk_rk M s W V).toNat = n) (h : fs_c (tk_F M s W R p) (tk_pr M s W).toNat ≤ n) : False := by
  obtain ⟨b0, b1⟩ := fs_rk_b s.toNat hin
  have b0 : 0 ≤ tk_rk M s W V := b0
  have b1 : tk_rk M s W V < tk_pr M s W := b1
  have e : (((tk_rk M s W V).toNat : Nat) : Int) = tk_rk M s W V := Int.toNat_of_nonneg b0
  have g := fs_end (F := tk_F M s W R p) (k := (tk_rk M s W V).toNat) (p := (tk_pr M s W).toNat) (by rw [e]; exact hF) (by omega)
  omega
theorem tk_T_one {M : xa_M} {X p n r r' : Int} {T T' : Int → Int} (hM : tk_M M) (h : tk_T M X p n r T) (h' : tk_T M X p n r' T') : r' = r ∧ ∀ w : Int, 0 ≤ w → w < 14 → T' w = T w := by
  rcases h with ⟨n1, e1, t1⟩ | ⟨n1, h⟩
  · rcases h' with ⟨-, e2, t2⟩ | ⟨n2, -⟩
    · exact ⟨by omega, fun w w0 w1 => by rw [t1 w w0 w1, t2 w w0 w1]⟩
    · omega
  rcases h' with ⟨n2, -⟩ | ⟨-, h'⟩
  · omega
  obtain ⟨e, s, W, R, hS, h⟩ := h
  obtain ⟨e', s', W', R', hS', h'⟩ := h'
  obtain ⟨ee, eL⟩ := tk_S_one hM hS hS'
  subst ee
  rcases h with ⟨n1, e1, t1⟩ | ⟨c1, h⟩
  · rcases h' with ⟨-, e2, t2⟩ | ⟨c2, -⟩
    · exact ⟨by omega, fun w w0 w1 => by rw [t1 w w0 w1, t2 w w0 w1]⟩
    · exact absurd c2 n1
  · rcases h' with ⟨n2, -⟩ | ⟨-, h'⟩
    · exact absurd c1 n2
    · obtain ⟨es, eW⟩ := eL (Or.inl c1)
      have es := es.symm
      subst es
      obtain ⟨eF, ep, er, ei⟩ := tk_e (M := M) eW
      rw [eF, ep] at h'
      rcases h with ⟨e1, f1, t1⟩ | ⟨e1, V, v1, v2, v3, v4, v5⟩
      · rcases h' with ⟨e2, -, t2⟩ | ⟨-, V', u1, u2, u3, -⟩
        · exact ⟨by omega, fun w w0 w1 => by rw [t1 w w0 w1, t2 w w0 w1]⟩
        · rw [er] at u2 u3
          exact (tk_end (ei _ u1) u2 u3 f1).elim
      · rcases h' with ⟨-, f2, -⟩ | ⟨e2, V', u1, u2, u3, u4, u5⟩
        · exact (tk_end v1 v2 v3 f2).elim
        · rw [er] at u2 u3
          have u1 := ei _ u1
          obtain ⟨b0, b1⟩ := fs_rk_b _ v1
          obtain ⟨d0, d1⟩ := fs_rk_b _ u1
          have b0 : 0 ≤ tk_rk M s W V := b0
          have d0 : 0 ≤ tk_rk M s W V' := d0
          have z1 : (((tk_rk M s W V).toNat : Nat) : Int) = tk_rk M s W V := Int.toNat_of_nonneg b0
          have z2 : (((tk_rk M s W V').toNat : Nat) : Int) = tk_rk M s W V' := Int.toNat_of_nonneg d0
          have ek := fs_one (F := tk_F M s W R p) (k := (tk_rk M s W V).toNat) (k' := (tk_rk M s W V').toNat) (by rw [z1]; exact v2) (by rw [z2]; exact u2) (by rw [v3, u3])
          have eV := fs_inj s.toNat v1 u1 (show tk_rk M s W V = tk_rk M s W V' by omega)
          refine ⟨by omega, fun w w0 w1 => ?_⟩
          by_cases c : ∃ j : Int, 0 ≤ j ∧ j < s ∧ W j = w
          · obtain ⟨j, j0, j1, jw⟩ := c
            have a := v4 j j0 j1
            have b := u4 j j0 j1
            rw [(eW j j0 j1).1] at b
            rw [← jw, a, b]
            exact (eV j j0 (by omega)).symm
          · rw [v5 w w0 w1 (fun j j0 j1 jw => c ⟨j, j0, j1, jw⟩), u5 w w0 w1 (fun j j0 j1 jw => c ⟨j, j0, j1, by rw [← (eW j j0 j1).1]; exact jw⟩)]
-- ready and fit of the reference, told
set_option maxRecDepth 20000
theorem fr_pr {M : xa_M} (n : Nat) : xm_pr M n = fs_pr (fr_L M) (fr_H M) n := by
  induction n with
  | zero => rfl
  | succ n ih =>
    show xm_pr M n * xm_sp M n = fs_pr (fr_L M) (fr_H M) n * (fr_H M n - fr_L M n + 1)
    rw [ih]
    rfl
theorem fr_prm {M : xa_M} {a b : Nat} (hab : a ≤ b) (h : ∀ j : Int, 0 ≤ j → j < b → M 61 (M 80 j) ≤ M 62 (M 80 j)) : xm_pr M a ≤ xm_pr M b := by
  rw [fr_pr, fr_pr]
  exact fs_prm hab h
theorem fa_c0 {F : Int → Prop} {a : Int} (h0 : 0 ≤ a) (h : ¬ F a) : fs_c F (a + 1).toNat = fs_c F a.toNat := by
  rw [show (a + 1).toNat = a.toNat + 1 by omega]
  exact fs_c0 (by rw [Int.toNat_of_nonneg h0]; exact h)
theorem wv_Q1 {M M1 : xa_M} {X r x : Int} (h : wv_Q M X M1 r) (e : r = x) : wv_Q M X M1 x := e ▸ h
theorem ct_areTooManyF {A : Nat → Nat} {h0 : g_H} {d : Nat} {M : xa_M} {post : Option xa_V → xa_M → Prop} (hI : xm_Inv M) (hw : xm_way M) (k : ∀ r : Int, (r = 0 ∨ r = 1) → (r = 0 → xm_pr M (M 60 32).toNat ≤ 200000) → (r = 1 → 200000 < xm_pr M (M 60 32).toNat) → post (some (0, 0, 0, 1, r)) M) : xa_C xm_I A h0 (d + 1) 240 [(2, 60, 0, 0, 0)] M post := by
  refine xa_C_wk ?_
  refine xa_meth (Q0 := (5, 2, false, 0, 0, 12)) (by decide +kernel) ⟨rfl, rfl⟩ (full := s_c_240) rfl rfl ?_
  intro hM hv Q hgo
  have loop0 : ∀ (n : Nat) (x3 x1 : Int), 0 ≤ x3 ∧ x3 ≤ 14 → 1 ≤ x1 ∧ x1 ≤ 200000 → x3 ≤ M 60 32 → x1 = xm_pr M x3.toNat → 14 - x3 < (n : Int) → Q 4 [(3, (0, 0, 0, 14, x3)), (1, (1, 0, 1, 200000, x1)), (0, (2, 60, 0, 0, 0))] [] M := by
    intro n
    induction n with
    | zero => intro x3 x1 b3 b1 h32 hpr hms; omega
    | succ n ih0 =>
      intro x3 x1 b3 b1 h32 hpr hms0
      have b32 := xm_f32 hM
      have t80 : x3 < M 60 32 → 0 ≤ M 80 x3 ∧ M 80 x3 ≤ 13 := fun h => xm_t80 hM x3 (by omega) (by omega)
      have hs := fun h : x3 < M 60 32 => xm_way_sp hM hI hw x3 (by omega) h
      have hp : x3 < M 60 32 → 1 ≤ x1 * (M 62 (M 80 x3) - M 61 (M 80 x3) + 1) := fun h => by
        have := Int.mul_pos (show 0 < x1 by omega) (show 0 < M 62 (M 80 x3) - M 61 (M 80 x3) + 1 by have := hs h; omega)
        omega
      refine hgo.1 34 [4] 4 _ _ _ ?_
      refine And.intro ?_ ?_
      · intro (c1 : (M 60 32) ≤ x3)
        show xa_wk post (some (0, 0, 0, 0, 0)) M
        exact xa_wkI 0 rfl (fun _ _ => by omega) (k 0 (by omega) (fun e => by first | (exfalso; omega) | (rw [show M 60 32 = x3 by omega, ← hpr]; omega)) (fun e => absurd e (by decide)))
      · intro (c1 : x3 < (M 60 32))
        refine And.intro (show 0 ≤ x3 ∧ x3 < 14 by omega) ?_
        refine And.intro ?_ ?_
        · intro (c2 : (x1 * (((M 62 (M 80 x3)) - (M 61 (M 80 x3))) + 1)) ≤ 200000)
          show Q 4 [(3, (0, 0, 1, 15, x3 + 1)), (1, (1, 0, (-79800000), 80200000, x1 * (((M 62 (M 80 x3)) - (M 61 (M 80 x3))) + 1))), (4, (0, 0, 0, 13, M 80 x3)), (0, (2, 60, 0, 0, 0))] [] M
          refine hgo.2.1 4 _ [(3, (0, 0, 0, 14, x3 + 1)), (1, (1, 0, 1, 200000, x1 * (((M 62 (M 80 x3)) - (M 61 (M 80 x3))) + 1))), (0, (2, 60, 0, 0, 0))] _ _ (xa_subI rfl rfl (fun _ _ _ _ => by omega) (xa_subL rfl rfl (fun _ _ _ _ => by omega) (xa_subR rfl xa_sub0))) ?_
          exact ih0 (x3 + 1) (x1 * (((M 62 (M 80 x3)) - (M 61 (M 80 x3))) + 1)) (by omega) (by omega) (by have := xm_f32 hM; omega) (xm_prs (by omega) hpr) (by omega)
        · intro (c2 : 200000 < (x1 * (((M 62 (M 80 x3)) - (M 61 (M 80 x3))) + 1)))
          show xa_wk post (some (0, 0, 1, 1, 1)) M
          have hpn := xm_prs (M := M) (x := x3) (y := x1) (by omega) hpr
          have hmn := fr_prm (M := M) (a := (x3 + 1).toNat) (b := (M 60 32).toNat) (by omega) (fun j j0 j1 => (xm_way_sp hM hI hw j j0 (by omega)).2)
          exact xa_wkI 1 rfl (fun _ _ => by omega) (k 1 (by omega) (fun e => absurd e (by decide)) (fun _ => by omega))
  refine hgo.1 9 [4] 0 _ _ _ ?_
  show Q 4 [(3, (0, 0, 0, 0, 0)), (1, (1, 0, 1, 1, 1)), (0, (2, 60, 0, 0, 0))] [] M
  refine hgo.2.1 4 _ [(3, (0, 0, 0, 14, 0)), (1, (1, 0, 1, 200000, 1)), (0, (2, 60, 0, 0, 0))] _ _ (xa_subI rfl rfl (fun _ _ _ _ => by omega) (xa_subL rfl rfl (fun _ _ _ _ => by omega) (xa_subR rfl xa_sub0))) ?_
  exact loop0 15 0 1 (by omega) (by omega) (by have := xm_f32 hM; omega) rfl (by omega)
/-- what ready leaves -/
def rd_Q (M : xa_M) (a b : Int) (M1 : xa_M) (r : Int) : Prop := (¬ ((1 ≤ a ∧ a ≤ 9) ∧ 0 ≤ b ∧ b < M 60 11) ∧ r = -1) ∨ (((1 ≤ a ∧ a ≤ 9) ∧ 0 ≤ b ∧ b < M 60 11) ∧ ((wv_Q M a M1 0 ∧ r = -2) ∨ (wv_Q M a M1 1 ∧ ((200000 < xm_pr M1 (M1 60 32).toNat ∧ r = -4) ∨ (xm_pr M1 (M1 60 32).toNat ≤ 200000 ∧ r = 0)))))
theorem ct_readyF {A : Nat → Nat} {h0 : g_H} {d : Nat} {M : xa_M} {post : Option xa_V → xa_M → Prop} {l1 u1 l2 u2 : Int} {a b : Int} (hI : xm_Inv M) (k : ∀ (r : Int) (M1 : xa_M), (r = 0 ∨ r = -1 ∨ r = -2 ∨ r = -4) → xm_cor M M1 → (r = 0 → xm_way M1 ∧ xm_pr M1 (M1 60 32).toNat ≤ 200000 ∧ 0 ≤ b ∧ b < M 60 11) → rd_Q M a b M1 r → post (some (0, 0, -4, 0, r)) M1) : xa_C xm_I A h0 (d + 3) 238 [(2, 60, 0, 0, 0), (0, 0, l1, u1, a), (0, 0, l2, u2, b)] M post := by
  refine xa_C_arg [(2, 60, 0, 0, 0), (0, 0, (-2147483648), 2147483647, a), (0, 0, (-2147483648), 2147483647, b)] (xa_svR (xa_svI (fun _ _ _ _ => by omega) (xa_svI (fun _ _ _ _ => by omega) xa_sv0))) (xa_C_wk ?_)
  refine xa_meth (Q0 := (3, 1, false, 0, 0, 12)) (by decide +kernel) ⟨rfl, rfl⟩ (full := s_c_238) rfl rfl ?_
  intro hM hv Q hgo
  refine hgo.1 23 [] 0 _ _ _ ?_
  show xa_C xm_I A h0 _ 214 [(0, 0, (-2147483648), 2147483647, a), (0, 0, 1, 1, 1), (0, 0, 9, 9, 9)] M _
  refine ct_in ?_ ?_
  · intro (i1 : 1 ≤ a ∧ a ≤ 9)
    show xa_C xm_I A h0 _ 239 [(2, 60, 0, 0, 0), (0, 0, (-2147483648), 2147483647, b)] M _
    refine ct_isPeriod ?_ ?_
    · intro (i2 : 0 ≤ b ∧ b < (M 60 11))
      show xa_C xm_I A h0 _ 236 [(2, 60, 0, 0, 0), (0, 0, (-2147483648), 2147483647, a)] M _
      refine xa_C_mok (ct_findWayG (xm_Inv_cor xm_cor_r hI) (by omega) (by omega) (fun v3 M3 hv3 hc3 hw3 hq3 hM3 => ?_))
      refine And.intro ?_ ?_
      · intro (c4 : ¬ v3 = 0)
        show xa_C xm_I A h0 _ 240 [(2, 60, 0, 0, 0)] M3 _
        refine ct_areTooManyF (xm_Inv_cor (xm_cor_t xm_cor_r hc3) hI) (hw3 (by omega)) (fun r5 zr5 yr5 yw5 => ?_)
        refine And.intro ?_ ?_
        · intro (c6 : r5 = 0)
          show xa_wk post (some (0, 0, 0, 0, 0)) M3
          exact xa_wkI 0 rfl (fun _ _ => by omega) (k 0 _ (by omega) (xm_cor_t xm_cor_r hc3) (fun e => by first | (exfalso; omega) | exact ⟨hw3 (by omega), yr5 (by omega), by omega, by omega⟩) (Or.inr ⟨⟨by omega, by omega⟩, Or.inr ⟨wv_Q1 hq3 (by omega), Or.inr ⟨yr5 (by omega), rfl⟩⟩⟩))
        · intro (c6 : ¬ r5 = 0)
          show xa_wk post (some (0, 0, (-4), (-4), (-4))) M3
          exact xa_wkI (-4) rfl (fun _ _ => by omega) (k (-4) _ (by omega) (xm_cor_t xm_cor_r hc3) (fun e => by first | (exfalso; omega) | exact ⟨hw3 (by omega), yr5 (by omega), by omega, by omega⟩) (Or.inr ⟨⟨by omega, by omega⟩, Or.inr ⟨wv_Q1 hq3 (by omega), Or.inl ⟨yw5 (by omega), rfl⟩⟩⟩))
      · intro (c4 : v3 = 0)
        show xa_wk post (some (0, 0, (-2), (-2), (-2))) M3
        exact xa_wkI (-2) rfl (fun _ _ => by omega) (k (-2) _ (by omega) (xm_cor_t xm_cor_r hc3) (fun e => absurd e (by decide)) (Or.inr ⟨⟨by omega, by omega⟩, Or.inl ⟨wv_Q1 hq3 (by omega), rfl⟩⟩))
    · intro (i2 : ¬ (0 ≤ b ∧ b < (M 60 11)))
      show xa_wk post (some (0, 0, (-1), (-1), (-1))) M
      exact xa_wkI (-1) rfl (fun _ _ => by omega) (k (-1) _ (by omega) xm_cor_r (fun e => by first | (exfalso; omega) | exact ⟨hw0 (by omega), yr5 (by omega), by omega, by omega⟩) (Or.inl ⟨fun h => by omega, rfl⟩))
  · intro (i1 : ¬ (1 ≤ a ∧ a ≤ 9))
    show xa_wk post (some (0, 0, (-1), (-1), (-1))) M
    exact xa_wkI (-1) rfl (fun _ _ => by omega) (k (-1) _ (by omega) xm_cor_r (fun e => by first | (exfalso; omega) | exact ⟨hw0 (by omega), yr5 (by omega), by omega, by omega⟩) (Or.inl ⟨fun h => by omega, rfl⟩))
theorem tk_ce {M M1 : xa_M} (h : xm_cor M M1) : (M1 60 0 = M 60 0 ∧ M1 60 6 = M 60 6 ∧ M1 60 11 = M 60 11) ∧ M1 61 = M 61 ∧ M1 62 = M 62 ∧ M1 63 = M 63 ∧ M1 64 = M 64 ∧ M1 66 = M 66 ∧ M1 67 = M 67 ∧ M1 70 = M 70 ∧ M1 71 = M 71 :=
  ⟨⟨xm_corf h 0 (by omega), xm_corf h 6 (by omega), xm_corf h 11 (by omega)⟩, funext (xm_corq h 61 rfl), funext (xm_corq h 62 rfl), funext (xm_corq h 63 rfl), funext (xm_corq h 64 rfl), funext (xm_corq h 66 rfl), funext (xm_corq h 67 rfl), funext (xm_corq h 70 rfl), funext (xm_corq h 71 rfl)⟩
theorem tk_M_c {M M1 : xa_M} (h : xm_cor M M1) (hM : tk_M M) : tk_M M1 := by
  obtain ⟨⟨e0, e6, e11⟩, e61, e62, e63, e64, e66, e67, e70, e71⟩ := tk_ce h
  unfold tk_M at hM ⊢
  rw [e0, e6, e61, e62, e64, e66, e67]
  exact hM
theorem tk_S_c {M M1 : xa_M} {X p r s : Int} {W R : Int → Int} (h : xm_cor M M1) (hS : tk_S M1 X p r s W R) : tk_S M X p r s W R := by
  obtain ⟨⟨e0, e6, e11⟩, e61, e62, e63, e64, e66, e67, e70, e71⟩ := tk_ce h
  unfold tk_S tk_N tk_L tk_D tk_Y tk_pr at hS ⊢
  rw [e0, e6, e11, e61, e62, e64, e66, e67] at hS
  exact hS
theorem tk_S_L {M : xa_M} {X p s : Int} {W R : Int → Int} (h : tk_S M X p 0 s W R) : (1 ≤ X ∧ X ≤ 9) ∧ (0 ≤ p ∧ p < M 60 11) ∧ tk_L M X s W R ∧ tk_pr M s W ≤ 200000 := by
  rcases h with ⟨-, h⟩ | ⟨⟨c1, c2⟩, ⟨-, h⟩ | ⟨hL, ⟨-, h⟩ | ⟨hp, -⟩⟩⟩
  · omega
  · omega
  · omega
  · exact ⟨c1, c2, hL, hp⟩
theorem rd_S {M M0 M1 : xa_M} {a b r : Int} (hT : tk_M M) (h0 : xm_cor M M0) (h1 : xm_cor M0 M1) (hMk : xa_Mok xm_I M1) (h : rd_Q M0 a b M1 r) : tk_S M a b r (M1 60 32) (M1 80) (M1 81) := by
  refine tk_S_c h0 ?_
  have hT0 := tk_M_c h0 hT
  obtain ⟨-, e61, e62, -⟩ := tk_ce h1
  have ep : xm_pr M1 (M1 60 32).toNat = tk_pr M0 (M1 60 32) (M1 80) := by
    rw [fr_pr]
    unfold fr_L fr_H tk_pr
    rw [e61, e62]
  rw [rd_Q, ep] at h
  rcases h with h | ⟨c, ⟨hq, e⟩ | ⟨hq, h⟩⟩
  · exact Or.inl h
  · exact Or.inr ⟨c, Or.inl ⟨tk_N_ref hMk hq, e⟩⟩
  · exact Or.inr ⟨c, Or.inr ⟨tk_L_ref hT0 hMk hq, h⟩⟩
theorem fm_e {M Mr : xa_M} {p : Int} (h : xm_cor M Mr) : fr_F Mr p = tk_F M (Mr 60 32) (Mr 80) (Mr 81) p ∧ fs_pr (fr_L Mr) (fr_H Mr) (Mr 60 32).toNat = tk_pr M (Mr 60 32) (Mr 80) ∧ (∀ V, fs_rk (fr_L Mr) (fr_H Mr) V (Mr 60 32).toNat = tk_rk M (Mr 60 32) (Mr 80) V) ∧ ∀ V, fs_in (fr_L Mr) (fr_H Mr) V (Mr 60 32).toNat → tk_in M (Mr 60 32) (Mr 80) V := by
  obtain ⟨-, e61, e62, -, -, -, -, e70, e71⟩ := tk_ce h
  unfold fr_F tk_F tk_pr tk_rk tk_in fr_L fr_H
  rw [e61, e62, e70, e71]
  exact ⟨rfl, rfl, fun _ => rfl, fun _ h => h⟩
theorem fm_pr {Mr M1 : xa_M} (hK : fr_K Mr M1) : xm_pr M1 (M1 60 32).toNat = fs_pr (fr_L Mr) (fr_H Mr) (Mr 60 32).toNat := by
  obtain ⟨eL, eH, -, e32, -, -⟩ := fr_L_k hK
  rw [fr_pr, eL, eH, e32]
theorem fm_firstW {A : Nat → Nat} {h0 : g_H} {d : Nat} {M : xa_M} {post : Option xa_V → xa_M → Prop} (hI : xm_Inv M) (hY : xm_Y M) (k : ∀ (M1 : xa_M), xm_cor M M1 → M1 60 20 = M 60 20 → xm_W M1 0 → fr_K M M1 → fr_r M M1 = 0 → post none M1) : xa_C xm_I A h0 (d + 1) 241 [(2, 60, 0, 0, 0)] M post :=
  xa_C_asm (fun hM _ => ct_firstWay (fun M1 h84 ht => by
    have hw := hY.1
    have hp := hY.2
    have e32 := h84 60 32 (by decide)
    have e0 := h84 60 0 (by decide)
    have b32 := xm_f32 hM
    have hF : xm_fit M1 := fun i i0 i1 => by
      rw [e32] at i1
      rw [h84 80 i (by decide), h84 61 _ (by decide), h84 62 _ (by decide), ht i i0 i1]
      have := xm_way_sp hM hI hw i i0 i1
      omega
    have hb := xm_rkb hF (M1 60 32).toNat (by omega)
    have hp1 : xm_pr M1 (M1 60 32).toNat ≤ 200000 := by
      rw [e32, xm_pr_84 h84]
      exact hp
    refine k M1 (xm_84_c h84) (h84 60 20 (by decide)) ⟨fun i i0 i1 => ?_, hF, hp1, by omega⟩ (fun q j h1 h2 => h84 q j (by omega)) (fs_first _ (fun i i0 i1 => ht i i0 (by omega)))
    rw [e32] at i1
    rw [e0, h84 80 i (by decide)]
    exact hw i i0 i1))
theorem ms_fitF {A : Nat → Nat} {h0 : g_H} {d : Nat} {M : xa_M} {post : Option xa_V → xa_M → Prop} {l1 u1 l2 u2 l3 u3 : Int} {a x2 x3 : Int} (hI : xm_Inv M) (k : ∀ (lo hi r : Int) (M1 : xa_M), tk_T M a x2 x3 r (M1 63) → (∀ (q : Nat) (j : Int), ¬ xm_scr q j → ¬ q = 63 → M1 q j = M q j) → xm_Inv M1 → post (some (0, 0, lo, hi, r)) M1) : xa_C xm_I A h0 (d + 4) 244 [(2, 60, 0, 0, 0), (0, 0, l1, u1, a), (0, 0, l2, u2, x2), (0, 0, l3, u3, x3)] M post := by
  refine xa_C_arg [(2, 60, 0, 0, 0), (0, 0, (-2147483648), 2147483647, a), (0, 0, (-2147483648), 2147483647, x2), (0, 0, (-2147483648), 2147483647, x3)] (xa_svR (xa_svI (fun _ _ _ _ => by omega) (xa_svI (fun _ _ _ _ => by omega) (xa_svI (fun _ _ _ _ => by omega) xa_sv0)))) ?_
  refine xa_meth (Q0 := (6, 2, false, 0, 0, 12)) (by decide +kernel) ⟨rfl, rfl⟩ (full := s_c_244) rfl rfl ?_
  intro hM hv Q hgo
  have hTM := tk_M_of hM hI
  have loopT : ∀ (Mb : xa_M), (∀ i j : Int, 0 ≤ i → i < Mb 60 32 → 0 ≤ j → j < Mb 60 32 → Mb 80 i = Mb 80 j → i = j) → (∀ i, 0 ≤ i → i < Mb 60 32 → 10 ≤ Mb 84 i) → (∀ M1 : xa_M, (∀ (q : Nat) (j : Int), ¬ q = 63 → M1 q j = Mb q j) → (∀ j : Int, 0 ≤ j → j < Mb 60 32 → M1 63 (Mb 80 j) = Mb 84 j) → (∀ w : Int, (∀ j : Int, 0 ≤ j → j < Mb 60 32 → ¬ Mb 80 j = w) → M1 63 w = Mb 63 w) → xm_Inv M1 → post (some (0, 0, 1, 1, 1)) M1) → ∀ (n : Nat) (x5 : Int) (M1 : xa_M), 0 ≤ x5 ∧ x5 ≤ 14 → x5 ≤ Mb 60 32 → xm_Inv M1 → (∀ (q : Nat) (j : Int), ¬ q = 63 → M1 q j = Mb q j) → (∀ j : Int, 0 ≤ j → j < x5 → M1 63 (Mb 80 j) = Mb 84 j) → (∀ w : Int, (∀ j : Int, 0 ≤ j → j < x5 → ¬ Mb 80 j = w) → M1 63 w = Mb 63 w) → 14 - x5 < (n : Int) → Q 47 [(5, (0, 0, 0, 14, x5)), (0, (2, 60, 0, 0, 0))] [] M1 := by
    intro Mb hinj h10 kk n
    induction n with
    | zero => intro x5 M1 h1 h2 hJ hb ht hn hms; omega
    | succ n ih =>
      intro x5 M1 h1 h2 hJ hb ht hn hms
      refine hgo.2.2 _ _ _ _ (fun hM1 _ => ?_)
      have b32 := xm_f32 hM1
      have e32 := hb 60 32 (by decide)
      have e80 := hb 80 x5 (by decide)
      have e84 := hb 84 x5 (by decide)
      have t80 : x5 < 14 → 0 ≤ M1 80 x5 ∧ M1 80 x5 ≤ 13 := fun h => xm_t80 hM1 x5 h1.1 h
      have t84 : x5 < 14 → 0 ≤ M1 84 x5 ∧ M1 84 x5 ≤ 400 := fun h => xm_t84 hM1 x5 h1.1 h
      have t10 : x5 < Mb 60 32 → 10 ≤ M1 84 x5 := fun h => by
        rw [e84]
        exact h10 x5 h1.1 h
      refine hgo.1 22 [27, 47] 47 _ _ _ ?_
      refine And.intro ?_ ?_
      · intro (c1 : (M1 60 32) ≤ x5)
        have ex : x5 = Mb 60 32 := by omega
        show post (some (0, 0, 1, 1, 1)) M1
        exact kk M1 hb (by rw [← ex]; exact ht) (by rw [← ex]; exact hn) hJ
      · intro (c1 : x5 < (M1 60 32))
        refine And.intro (show 0 ≤ x5 ∧ x5 < 14 by omega) ?_
        refine And.intro (show 0 ≤ x5 ∧ x5 < 14 by omega) ?_
        show Q 47 [(5, (0, 0, 1, 15, x5 + 1)), (0, (2, 60, 0, 0, 0))] [] (xa_up M1 63 (M1 80 x5) (M1 84 x5))
        refine hgo.2.1 47 _ [(5, (0, 0, 0, 14, x5 + 1)), (0, (2, 60, 0, 0, 0))] _ _ (xa_subI rfl rfl (fun _ _ _ _ => by omega) (xa_subR rfl xa_sub0)) ?_
        refine ih (x5 + 1) (xa_up M1 63 (M1 80 x5) (M1 84 x5)) (by omega) (by omega) (xm_Inv_63 hJ (t10 (by omega))) (fun q j hq => (xa_up_ne (fun h => hq h.1)).trans (hb q j hq)) (fun j j0 j1 => ?_) (fun w hw => ?_) (by omega)
        · by_cases e : j = x5
          · rw [e, e80, e84]
            exact xa_up_eq
          · rw [e80]
            exact (xa_up_ne (fun h => e (hinj j x5 j0 (by omega) h1.1 (by omega) h.2))).trans (ht j j0 (by omega))
        · rw [e80]
          exact (xa_up_ne (fun h => hw x5 h1.1 (by omega) h.2.symm)).trans (hn w (fun j j0 j1 => hw j j0 (by omega)))
  have loop0 : ∀ (Mr : xa_M), xm_cor M Mr → tk_S M a x2 0 (Mr 60 32) (Mr 80) (Mr 81) → 0 ≤ x3 → 0 ≤ x2 ∧ x2 < M 60 11 → ∀ (n : Nat) (x4 : Int) (M1 : xa_M), xm_cor M M1 → fr_K Mr M1 → xm_W M1 0 → x4 = fs_c (fr_F Mr x2) (fr_r Mr M1).toNat → x4 ≤ x3 → xm_rk M1 (M1 60 32).toNat < (n : Int) → Q 27 [(4, (0, 0, (-2147483648), 2147483647, x4)), (3, (0, 0, (-2147483648), 2147483647, x3)), (2, (0, 0, (-2147483648), 2147483647, x2)), (0, (2, 60, 0, 0, 0))] [] M1 := by
    intro Mr hcr hS hx3 hp n
    obtain ⟨eF, ep, er, ei⟩ := fm_e hcr (p := x2)
    obtain ⟨hX, -, hL, -⟩ := tk_S_L hS
    induction n with
    | zero => intro x4 M1 hc hK hW hx hle hms; exact absurd hms (by have := xm_W_rk hW; omega)
    | succ n ih0 =>
      intro x4 M1 hc hK hW hx hle hms0
      refine hgo.2.2 _ _ _ _ (fun hM1 _ => ?_)
      have e11 := xm_corf hc 11 (by omega)
      have hr0 := fr_r0 hK hW.2.1
      have hcb := fs_cb (F := fr_F Mr x2) (fr_r Mr M1).toNat
      have hpr : fs_pr (fr_L Mr) (fr_H Mr) (Mr 60 32).toNat ≤ 200000 := by
        rw [← fm_pr hK]
        exact hW.2.2.1
      have hrk := xm_W_rk hW
      have hWs := hW.2.2.2
      refine hgo.1 17 [27, 47] 27 _ _ _ ?_
      show xa_C xm_I A h0 _ 242 [(2, 60, 0, 0, 0), (0, 0, (-2147483648), 2147483647, x2)] M1 _
      refine xa_C_mok (fr_isF hK (xm_Inv_cor hc hI) hW (by omega) (by omega) (fun v1 M2 z1 q1 hc1 e1 wF1 rk1 hK2 er2 hM2 => ?_))
      have hc2 := xm_cor_t hc hc1
      refine And.intro ?_ ?_
      · intro (c2 : ¬ v1 = 0)
        have hf : fr_F Mr x2 (fr_r Mr M1) := q1.mp (by omega)
        refine And.intro ?_ ?_
        · intro (c3 : ¬ x4 = x3)
          show xa_C xm_I A h0 _ 243 [(2, 60, 0, 0, 0)] M2 _
          refine xa_C_mok (fr_nextW hK2 wF1 (fun v4 M4 z4 hc4 e4 wN4 rk4 hK4 n4 l4 hM4 => ?_))
          have hc5 := xm_cor_t hc2 hc4
          have hn1 : x4 + 1 = fs_c (fr_F Mr x2) (fr_r Mr M2 + 1).toNat := by rw [er2, fa_c1 hr0.1 hf, ← hx]
          refine And.intro ?_ ?_
          · intro (c5 : ¬ v4 = 0)
            show Q 27 [(4, (0, 0, (-2147483648), 2147483647, xa_w32 (x4 + 1))), (3, (0, 0, (-2147483648), 2147483647, x3)), (2, (0, 0, (-2147483648), 2147483647, x2)), (0, (2, 60, 0, 0, 0))] [] M4
            rw [xa_w32_id (n := x4 + 1) (by omega) (by omega)]
            refine hgo.2.1 27 _ [(4, (0, 0, (-2147483648), 2147483647, x4 + 1)), (3, (0, 0, (-2147483648), 2147483647, x3)), (2, (0, 0, (-2147483648), 2147483647, x2)), (0, (2, 60, 0, 0, 0))] _ _ (xa_subI rfl rfl (fun _ _ _ _ => by omega) (xa_subI rfl rfl (fun _ _ _ _ => by omega) (xa_subI rfl rfl (fun _ _ _ _ => by omega) (xa_subR rfl xa_sub0)))) ?_
            exact ih0 (x4 + 1) M4 hc5 hK4 (wN4 _ (by omega) (by omega)) (by rw [n4 (by omega)]; exact hn1) (by omega) (by omega)
          · intro (c5 : v4 = 0)
            show post (some (0, 0, 0, 0, 0)) M4
            refine k _ _ 0 M4 (Or.inr ⟨hx3, 0, Mr 60 32, Mr 80, Mr 81, hS, Or.inr ⟨rfl, Or.inl ⟨rfl, ?_, fun w _ _ => xm_corq hc5 63 rfl w⟩⟩⟩) (fun q j hq _ => hc5 q j hq) (xm_Inv_cor hc5 hI)
            rw [← eF, ← ep, ← l4 (by omega), ← hn1]
            omega
        · intro (c3 : x4 = x3)
          show Q 47 [(5, (0, 0, 0, 0, 0)), (4, (0, 0, (-2147483648), 2147483647, x4)), (3, (0, 0, (-2147483648), 2147483647, x3)), (2, (0, 0, (-2147483648), 2147483647, x2)), (0, (2, 60, 0, 0, 0))] [] M2
          refine hgo.2.1 47 _ [(5, (0, 0, 0, 14, 0)), (0, (2, 60, 0, 0, 0))] _ _ (xa_subI rfl rfl (fun _ _ _ _ => by omega) (xa_subR rfl xa_sub0)) ?_
          have b32 := xm_f32 hM2
          obtain ⟨-, -, -, e32, -, -⟩ := fr_L_k hK2
          have e80 : M2 80 = Mr 80 := funext (fun j => hK2 80 j (by decide) (fun e => absurd e.1 (by decide)))
          have hI2 := xm_Inv_cor hc2 hI
          have er3 : tk_rk M (Mr 60 32) (Mr 80) (M2 84) = fr_r Mr M1 := (er (M2 84)).symm.trans er2
          refine loopT M2 (fun i j i0 i1 j0 j1 e => ?_) (xm_W10 hM2 hI2 wF1) (fun M3 hb ht hn hI3 => ?_) 15 0 M2 (by omega) (by omega) hI2 (fun _ _ _ => rfl) (fun j j0 j1 => by omega) (fun _ _ => rfl) (by omega)
          · rw [e80] at e
            exact tk_inj hTM hL i j i0 (by omega) j0 (by omega) e
          · refine k _ _ 1 M3 (Or.inr ⟨hx3, 0, Mr 60 32, Mr 80, Mr 81, hS, Or.inr ⟨rfl, Or.inr ⟨rfl, M2 84, ei _ (fr_in hK2 wF1.2.1), ?_, ?_, fun j j0 j1 => ?_, fun w w0 w1 hw => ?_⟩⟩⟩) (fun q j hq h63 => (hb q j h63).trans (hc2 q j hq)) hI3
            · rw [er3, ← eF]
              exact hf
            · rw [er3, ← eF, ← hx]
              exact c3
            · rw [← e80]
              exact ht j j0 (by omega)
            · exact (hn w (fun j j0 j1 => by rw [e80]; exact hw j j0 (by omega))).trans (xm_corq hc2 63 rfl w)
      · intro (c2 : v1 = 0)
        have hf : ¬ fr_F Mr x2 (fr_r Mr M1) := fun h => by
          have := q1.mpr h
          omega
        show xa_C xm_I A h0 _ 243 [(2, 60, 0, 0, 0)] M2 _
        refine xa_C_mok (fr_nextW hK2 wF1 (fun v6 M6 z6 hc6 e6 wN6 rk6 hK6 n6 l6 hM6 => ?_))
        have hc7 := xm_cor_t hc2 hc6
        have hn1 : x4 = fs_c (fr_F Mr x2) (fr_r Mr M2 + 1).toNat := by rw [er2, fa_c0 hr0.1 hf, ← hx]
        refine And.intro ?_ ?_
        · intro (c7 : ¬ v6 = 0)
          show Q 27 [(4, (0, 0, (-2147483648), 2147483647, x4)), (3, (0, 0, (-2147483648), 2147483647, x3)), (2, (0, 0, (-2147483648), 2147483647, x2)), (0, (2, 60, 0, 0, 0))] [] M6
          refine hgo.2.1 27 _ [(4, (0, 0, (-2147483648), 2147483647, x4)), (3, (0, 0, (-2147483648), 2147483647, x3)), (2, (0, 0, (-2147483648), 2147483647, x2)), (0, (2, 60, 0, 0, 0))] _ _ (xa_subI rfl rfl (fun _ _ _ _ => by omega) (xa_subI rfl rfl (fun _ _ _ _ => by omega) (xa_subI rfl rfl (fun _ _ _ _ => by omega) (xa_subR rfl xa_sub0)))) ?_
          exact ih0 x4 M6 hc7 hK6 (wN6 _ (by omega) (by omega)) (by rw [n6 (by omega)]; exact hn1) (by omega) (by omega)
        · intro (c7 : v6 = 0)
          show post (some (0, 0, 0, 0, 0)) M6
          refine k _ _ 0 M6 (Or.inr ⟨hx3, 0, Mr 60 32, Mr 80, Mr 81, hS, Or.inr ⟨rfl, Or.inl ⟨rfl, ?_, fun w _ _ => xm_corq hc7 63 rfl w⟩⟩⟩) (fun q j hq _ => hc7 q j hq) (xm_Inv_cor hc7 hI)
          rw [← eF, ← ep, ← l6 (by omega), ← hn1]
          omega
  have hc0 : xm_cor M (xa_up M 60 21 0) := xm_cor_f (by omega) xm_cor_r
  refine hgo.1 19 [27, 47] 0 _ _ _ ?_
  show xa_C xm_I A h0 _ 238 [(2, 60, 0, 0, 0), (0, 0, (-2147483648), 2147483647, a), (0, 0, (-2147483648), 2147483647, x2)] (xa_up M 60 21 0) _
  refine xa_C_mok (ct_readyF (xm_Inv_cor hc0 hI) (fun v1 M1 z1 hc1 hr1 hq1 hM1 => ?_))
  have hS := rd_S hTM hc0 hc1 hM1 hq1
  have hcM := xm_cor_t hc0 hc1
  refine And.intro ?_ ?_
  · intro (c2 : v1 < 0)
    show post (some (0, 0, 0, 0, 0)) M1
    by_cases c3 : x3 < 0
    · exact k _ _ 0 M1 (Or.inl ⟨c3, rfl, fun w _ _ => xm_corq hcM 63 rfl w⟩) (fun q j hq _ => hcM q j hq) (xm_Inv_cor hcM hI)
    · exact k _ _ 0 M1 (Or.inr ⟨by omega, v1, _, _, _, hS, Or.inl ⟨fun h => by omega, rfl, fun w _ _ => xm_corq hcM 63 rfl w⟩⟩) (fun q j hq _ => hcM q j hq) (xm_Inv_cor hcM hI)
  · intro (c2 : 0 ≤ v1)
    have v0 : v1 = 0 := by omega
    rw [v0] at hS
    refine And.intro ?_ ?_
    · intro (c3 : 0 ≤ x3)
      show xa_C xm_I A h0 _ 241 [(2, 60, 0, 0, 0)] M1 _
      refine xa_C_mok (fm_firstW (xm_Inv_cor hcM hI) ⟨(hr1 (by omega)).1, (hr1 (by omega)).2.1⟩ (fun M4 hc4 e4 wA4 hK4 hr4 hM4 => ?_))
      have w2 := wA4.2.2.2
      show Q 27 [(4, (0, 0, 0, 0, 0)), (0, (2, 60, 0, 0, 0)), (1, (0, 0, (-2147483648), 2147483647, a)), (2, (0, 0, (-2147483648), 2147483647, x2)), (3, (0, 0, (-2147483648), 2147483647, x3))] [] M4
      refine hgo.2.1 27 _ [(4, (0, 0, (-2147483648), 2147483647, 0)), (3, (0, 0, (-2147483648), 2147483647, x3)), (2, (0, 0, (-2147483648), 2147483647, x2)), (0, (2, 60, 0, 0, 0))] _ _ (xa_subI rfl rfl (fun _ _ _ _ => by omega) (xa_subI rfl rfl (fun _ _ _ _ => by omega) (xa_subI rfl rfl (fun _ _ _ _ => by omega) (xa_subR rfl xa_sub0)))) ?_
      exact loop0 M1 hcM hS c3 (tk_S_L hS).2.1 200000 0 M4 (xm_cor_t hcM hc4) hK4 wA4 (by rw [hr4]; rfl) c3 (by omega)
    · intro (c3 : x3 < 0)
      show post (some (0, 0, 0, 0, 0)) M1
      exact k _ _ 0 M1 (Or.inl ⟨c3, rfl, fun w _ _ => xm_corq hcM 63 rfl w⟩) (fun q j hq _ => hcM q j hq) (xm_Inv_cor hcM hI)
-- aimed and fit of the class, told
set_option maxRecDepth 20000
/-- the class's book is the reference's -/
def tk_B (pb : Nat) (C N : xa_M) : Prop := C pb 4 = N 60 11 ∧ (0 ≤ N 60 11 ∧ N 60 11 ≤ 8) ∧ ∀ p, 0 ≤ p → p < N 60 11 → (C (pb + 1) p = N 70 p ∧ C (pb + 2) p = N 71 p) ∧ (1 ≤ N 70 p ∧ N 70 p ≤ 2000) ∧ (1 ≤ N 71 p ∧ N 71 p ≤ 2000)
/-- ahead of the first fitting -/
def tk_A (N : xa_M) (p : Int) (C : xa_M) : Prop := (∀ i : Int, 0 ≤ i → i < C 15 10 → C 23 i = N 61 (C 21 i) ∧ C 24 i = N 62 (C 21 i)) ∧ C 15 13 = 0 ∧ Int.gcd (C 15 12) (C 15 11) = 1 ∧ (1 ≤ C 15 11 ∧ C 15 11 ≤ 2000) ∧ (1 ≤ C 15 12 ∧ C 15 12 ≤ 2000) ∧ ∃ g : Int, 1 ≤ g ∧ N 70 p = g * C 15 11 ∧ N 71 p = g * C 15 12
theorem tk_af {N C C1 : xa_M} {X r : Int} {F : Int → Int} (hT : tk_M N) (hR : tk_R C N) (hX : 1 ≤ X ∧ X ≤ 9) (hF : tk_Y N X F) (h1 : F 0 < 99 → r = 1 ∧ C1 16 4 = F 0 ∧ (wp_Q (C 1 10) (C 5) (C 7) (C 8) F (F 0) (C1 18) (C1 19) (C1 20) (F 0)) ∧ (wf_W (C1 19) (C1 20) (C 2) (C 3) (F 0) (C1 15 10) (C1 21) (C1 22) (C1 23) (C1 24) (C 1 9))) (h2 : 99 ≤ F 0 → r = 0) : (r = 0 → tk_N N X) ∧ (¬ r = 0 → tk_L N X (C1 15 10) (C1 21) (C1 22) ∧ (1 ≤ C1 15 10 ∧ C1 15 10 ≤ 14) ∧ tk_pr N (C1 15 10) (C1 21) = fs_pr (C1 23) (C1 24) (C1 15 10).toNat ∧ ∀ i : Int, 0 ≤ i → i < C1 15 10 → (C1 23 i = N 61 (C1 21 i) ∧ C1 24 i = N 62 (C1 21 i)) ∧ 1 ≤ C1 23 i ∧ C1 23 i ≤ C1 24 i ∧ C1 24 i ≤ 400) := by
  refine ⟨fun e => ?_, fun e => ?_⟩
  · by_cases c : F 0 < 99
    · have := (h1 c).1
      omega
    · exact ⟨F, hF, by omega⟩
  · by_cases c : F 0 < 99
    · obtain ⟨-, -, hQ, hW⟩ := h1 c
      obtain ⟨hL, hl⟩ := tk_L_cls hT hR hF c hQ hW
      obtain ⟨s1, -, s3⟩ := tk_lst hT (by omega) hL
      refine ⟨hL, s1, (fs_pr_e _ (fun i i0 i1 => ?_)).symm, fun i i0 i1 => ⟨hl i i0 i1, ?_⟩⟩
      · exact hl i i0 (by omega)
      · obtain ⟨a, b⟩ := hl i i0 i1
        have c := (s3 i i0 i1).2
        rw [a, b]
        omega
    · exact absurd (h2 (by omega)) e
theorem tk_gd {x y g : Int} (hx : 1 ≤ x) (hy : 1 ≤ y) (hg : g = (Int.gcd x y : Int)) : x = g * (x / g) ∧ y = g * (y / g) ∧ Int.gcd (y / g) (x / g) = 1 := by
  obtain ⟨x, rfl⟩ := Int.eq_ofNat_of_zero_le (show 0 ≤ x by omega)
  obtain ⟨y, rfl⟩ := Int.eq_ofNat_of_zero_le (show 0 ≤ y by omega)
  subst hg
  have d1 : Nat.gcd x y ∣ x := Nat.gcd_dvd_left x y
  have d2 : Nat.gcd x y ∣ y := Nat.gcd_dvd_right x y
  have hp : 0 < Nat.gcd x y := Nat.gcd_pos_of_pos_left y (by omega)
  have e1 := Nat.mul_div_cancel' d1
  have e2 := Nat.mul_div_cancel' d2
  have e3 := Nat.coprime_div_gcd_div_gcd hp
  refine ⟨?_, ?_, ?_⟩
  · show ((x : Nat) : Int) = ((Nat.gcd x y : Nat) : Int) * (((x : Nat) : Int) / ((Nat.gcd x y : Nat) : Int))
    rw [← Int.natCast_ediv, ← Int.natCast_mul, e1]
  · show ((y : Nat) : Int) = ((Nat.gcd x y : Nat) : Int) * (((y : Nat) : Int) / ((Nat.gcd x y : Nat) : Int))
    rw [← Int.natCast_ediv, ← Int.natCast_mul, e2]
  · show Int.gcd (((y : Nat) : Int) / ((Nat.gcd x y : Nat) : Int)) (((x : Nat) : Int) / ((Nat.gcd x y : Nat) : Int)) = 1
    rw [← Int.natCast_ediv, ← Int.natCast_ediv]
    show Nat.gcd (y / Nat.gcd x y) (x / Nat.gcd x y) = 1
    rw [Nat.gcd_comm]
    exact e3
theorem tk_aim {N m M1 : xa_M} {X p up dn g : Int} (hL : tk_L N X (m 15 10) (m 21) (m 22)) (hp : tk_pr N (m 15 10) (m 21) ≤ 200000) (hc : (1 ≤ X ∧ X ≤ 9) ∧ 0 ≤ p ∧ p < N 60 11) (hl : ∀ i : Int, 0 ≤ i → i < m 15 10 → m 23 i = N 61 (m 21 i) ∧ m 24 i = N 62 (m 21 i)) (hu : up = N 70 p) (hd : dn = N 71 p) (bu : 1 ≤ up ∧ up ≤ 2000) (bd : 1 ≤ dn ∧ dn ≤ 2000) (hg : g = (Int.gcd up dn : Int)) (g1 : 1 ≤ g) (e : M1 = xa_up (xa_up (xa_up m 15 11 (up / g)) 15 12 (dn / g)) 15 13 0) : tk_S N X p 0 (M1 15 10) (M1 21) (M1 22) ∧ tk_A N p M1 ∧ ∀ q j, ¬ (q = 15 ∧ (j = 11 ∨ j = 12 ∨ j = 13)) → M1 q j = m q j := by
  obtain ⟨x1, x2, x3⟩ := tk_gd bu.1 bd.1 hg
  have du := Int.ediv_nonneg (show 0 ≤ up by omega) (show 0 ≤ g by omega)
  have dd := Int.ediv_nonneg (show 0 ≤ dn by omega) (show 0 ≤ g by omega)
  have lu := Int.ediv_le_self g (show 0 ≤ up by omega)
  have ld := Int.ediv_le_self g (show 0 ≤ dn by omega)
  have fr : ∀ q j, ¬ (q = 15 ∧ (j = 11 ∨ j = 12 ∨ j = 13)) → M1 q j = m q j := fun q j h => by
    rw [e]
    exact (xa_up_ne (by omega)).trans ((xa_up_ne (by omega)).trans (xa_up_ne (by omega)))
  have e11 : M1 15 11 = up / g := by
    rw [e]
    exact (xa_up_ne (by omega)).trans ((xa_up_ne (by omega)).trans xa_up_eq)
  have e12 : M1 15 12 = dn / g := by
    rw [e]
    exact (xa_up_ne (by omega)).trans xa_up_eq
  have e13 : M1 15 13 = 0 := by
    rw [e]
    exact xa_up_eq
  have e10 := fr 15 10 (by omega)
  have e21 : M1 21 = m 21 := funext (fun j => fr 21 j (by omega))
  have e22 : M1 22 = m 22 := funext (fun j => fr 22 j (by omega))
  have n1 : ¬ up / g = 0 := fun h => by
    rw [h, Int.mul_zero] at x1
    omega
  have n2 : ¬ dn / g = 0 := fun h => by
    rw [h, Int.mul_zero] at x2
    omega
  refine ⟨?_, ⟨fun i i0 i1 => ?_, e13, by rw [e11, e12]; exact x3, by rw [e11]; omega, by rw [e12]; omega, g, g1, by rw [e11, ← hu]; exact x1, by rw [e12, ← hd]; exact x2⟩, fr⟩
  · rw [e10, e21, e22]
    exact Or.inr ⟨hc, Or.inr ⟨hL, Or.inr ⟨hp, rfl⟩⟩⟩
  · rw [e10] at i1
    rw [e21, fr 23 i (by omega), fr 24 i (by omega)]
    exact hl i i0 i1
/-- a search: the list stands, it is ahead of the first fitting -/
def tk_Z (N : xa_M) (X p : Int) (Ma : xa_M) : Prop := (1 ≤ X ∧ X ≤ 9) ∧ tk_L N X (Ma 15 10) (Ma 21) (Ma 22) ∧ tk_pr N (Ma 15 10) (Ma 21) ≤ 200000 ∧ tk_A N p Ma
/-- n have been found -/
def tk_st (N : xa_M) (p : Int) (Ma M : xa_M) (n : Int) : Prop := fa_S (Ma 23) (Ma 24) (Ma 22) (Ma 15 12) (Ma 15 11) (tk_F N (Ma 15 10) (Ma 21) (Ma 22) p) M (Ma 15 10 - 1) n
theorem tk_st0 {N Ma : xa_M} {p : Int} (h : tk_A N p Ma) : tk_st N p Ma Ma 0 := Or.inl ⟨h.2.1, rfl⟩
theorem fa_Kr {M : xa_M} : fa_K M M := fun _ _ _ _ _ _ => rfl
theorem fa_Kt {M M1 M2 : xa_M} (h : fa_K M M1) (h2 : fa_K M1 M2) : fa_K M M2 := fun q j a b c e => (h2 q j a b c e).trans (h q j a b c e)
theorem tk_Zl {N : xa_M} {X p : Int} {Ma : xa_M} (hT : tk_M N) (hZ : tk_Z N X p Ma) : (1 ≤ Ma 15 10 ∧ Ma 15 10 ≤ 14) ∧ fb_B (Ma 22) (Ma 15 10) ∧ (∀ i : Int, 0 ≤ i → i < Ma 15 10 → (1 ≤ Ma 23 i ∧ Ma 23 i ≤ Ma 24 i ∧ Ma 24 i ≤ 400) ∧ (0 ≤ Ma 21 i ∧ Ma 21 i < N 60 0)) ∧ tk_F N (Ma 15 10) (Ma 21) (Ma 22) p = fs_F (Ma 23) (Ma 24) (Ma 22) (Ma 15 10).toNat (Ma 15 12) (Ma 15 11) ∧ tk_pr N (Ma 15 10) (Ma 21) = fs_pr (Ma 23) (Ma 24) (Ma 15 10).toNat ∧ (∀ V, tk_rk N (Ma 15 10) (Ma 21) V = fs_rk (Ma 23) (Ma 24) V (Ma 15 10).toNat) ∧ ∀ V, fs_in (Ma 23) (Ma 24) V (Ma 15 10).toNat → tk_in N (Ma 15 10) (Ma 21) V := by
  obtain ⟨hX, hL, -, hl, -, -, -, -, g, g1, ga, gb⟩ := hZ
  obtain ⟨s1, s2, s3⟩ := tk_lst hT (by omega) hL
  have e : ∀ i : Int, 0 ≤ i → i < ((Ma 15 10).toNat : Int) → N 61 (Ma 21 i) = Ma 23 i ∧ N 62 (Ma 21 i) = Ma 24 i := fun i i0 i1 => by
    obtain ⟨a, b⟩ := hl i i0 (by omega)
    exact ⟨a.symm, b.symm⟩
  refine ⟨s1, s2, fun i i0 i1 => ?_, ?_, fs_pr_e _ e, fun V => fs_rk_e2 _ e, fun V h => fs_in_e e h⟩
  · obtain ⟨a, b⟩ := hl i i0 i1
    have c := s3 i i0 i1
    rw [a, b]
    omega
  · unfold tk_F
    rw [ga, gb, fs_F_g (by omega)]
    exact fs_F_e (fun i i0 i1 => ⟨(e i i0 i1).1, (e i i0 i1).2, rfl⟩)
/-- on to the next fitting -/
theorem cx_91t {b : Bool} {A : Nat → Nat} {h0 : g_H} {d : Nat} {M : xa_M} {post : Option xa_V → xa_M → Prop} {N Ma : xa_M} {X p n : Int} (hT : tk_M N) (hZ : tk_Z N X p Ma) (hK : fa_K Ma M) (hS : tk_st N p Ma M n) (k1 : ∀ M1 : xa_M, fa_K Ma M1 → tk_in N (Ma 15 10) (Ma 21) (M1 25) → tk_F N (Ma 15 10) (Ma 21) (Ma 22) p (tk_rk N (Ma 15 10) (Ma 21) (M1 25)) → fs_c (tk_F N (Ma 15 10) (Ma 21) (Ma 22) p) (tk_rk N (Ma 15 10) (Ma 21) (M1 25)).toNat = n → tk_st N p Ma M1 (n + 1) → post (some (0, 0, 0, 1, 1)) M1) (k0 : ∀ M1 : xa_M, fa_K Ma M1 → fs_c (tk_F N (Ma 15 10) (Ma 21) (Ma 22) p) (tk_pr N (Ma 15 10) (Ma 21)).toNat = n → post (some (0, 0, 0, 1, 0)) M1) : xa_C (xl_I b) A h0 (d + 5) 91 [(2, 15, 0, 0, 0)] M post := by
  obtain ⟨l1, l2, l3, l4, l5, l6, l7⟩ := tk_Zl hT hZ
  obtain ⟨hX, hL, hPr, hA⟩ := hZ
  obtain ⟨a1, a2, a3, a4, a5, -⟩ := hA
  have e22 : M 22 = Ma 22 := funext (fun j => hK 22 j (by decide) (by decide) (by decide) (by omega))
  have e23 : M 23 = Ma 23 := funext (fun j => hK 23 j (by decide) (by decide) (by decide) (by omega))
  have e24 : M 24 = Ma 24 := funext (fun j => hK 24 j (by decide) (by decide) (by decide) (by omega))
  have e10 := hK 15 10 (by decide) (by decide) (by decide) (by omega)
  have e11 := hK 15 11 (by decide) (by decide) (by decide) (by omega)
  have e12 := hK 15 12 (by decide) (by decide) (by decide) (by omega)
  have ez : Ma 15 10 - 1 + 1 = Ma 15 10 := by omega
  refine cx_91f (z := Ma 15 10 - 1) (n := n) (F := tk_F N (Ma 15 10) (Ma 21) (Ma 22) p) (by omega) (by omega) ?_ ?_ ?_ (by rw [e11]; exact a4) (by rw [e12]; exact a5) (by rw [e11, e12]; exact a3) ?_ ?_ (fun M1 hK1 hin hf hc hst => ?_) (fun M1 hK1 hc => ?_)
  · rw [ez, e22, e23, e24, e11, e12]
    exact l4
  · rw [ez, e22]
    exact l2
  · rw [e23, e24]
    exact fun i i0 i1 => (l3 i i0 (by omega)).1
  · rw [ez, e23, e24, ← l5]
    exact hPr
  · rw [e22, e23, e24, e11, e12]
    exact hS
  · rw [ez, e23, e24] at hin hf hc
    rw [e22, e23, e24, e11, e12] at hst
    rw [← l6] at hf hc
    exact k1 M1 (fa_Kt hK hK1) (l7 _ hin) hf hc hst
  · rw [ez, e23, e24, ← l5] at hc
    exact k0 M1 (fa_Kt hK hK1) hc
theorem cx_87_50 {b : Bool} {A : Nat → Nat} {h0 : g_H} {d : Nat} {M : xa_M} {post : Option xa_V → xa_M → Prop} {l1 u1 : Int} {x1 : Int} (k1 : (x1 < 0) → post (some (0, 0, 0, 0, 0)) M) (k2 : (0 ≤ x1) → ((M 50 4) ≤ x1) → post (some (0, 0, 0, 0, 0)) M) (k3 : (0 ≤ x1) → (x1 < (M 50 4)) → post (some (0, 0, 1, 1, 1)) M) : xa_C (xl_I b) A h0 (d + 1) 87 [(2, 50, 0, 0, 0), (0, 0, l1, u1, x1)] M post := by
  refine xa_C_arg [(2, 50, 0, 0, 0), (0, 0, (-2147483648), 2147483647, x1)] (xa_svR (xa_svI (fun _ _ _ _ => by omega) (xa_sv0))) ?_
  refine xa_meth (Q0 := (2, 2, false, 0, 0, 0)) (by decide +kernel) ⟨rfl, rfl⟩ (full := s_c_87) rfl rfl ?_
  intro hM hv Q hgo
  refine hgo.1 13 [] 0 _ _ _ ?_
  refine And.intro ?_ ?_
  · intro (c1 : x1 < 0)
    show post (some (0, 0, 0, 0, 0)) M
    exact k1 c1
  · intro (c1 : 0 ≤ x1)
    refine And.intro ?_ ?_
    · intro (c2 : (M 50 4) ≤ x1)
      show post (some (0, 0, 0, 0, 0)) M
      exact k2 c1 c2
    · intro (c2 : x1 < (M 50 4))
      show post (some (0, 0, 1, 1, 1)) M
      exact k3 c1 c2
theorem cx_23_51 {b : Bool} {A : Nat → Nat} {h0 : g_H} {d : Nat} {M : xa_M} {post : Option xa_V → xa_M → Prop} {l1 u1 : Int} {i : Int} (h1 : 0 ≤ i ∧ i < 8) (k1 : post (some (0, 0, (-2147483648), 2147483647, M 51 i)) M) : xa_C (xl_I b) A h0 (d + 1) 23 [(2, 51, 0, 0, 0), (0, 0, l1, u1, i)] M post := by
  refine xa_C_arg [(2, 51, 0, 0, 0), (0, 0, (-2147483648), 2147483647, i)] (xa_svR (xa_svI (fun _ _ _ _ => by omega) xa_sv0)) ?_
  refine xa_meth (Q0 := (2, 1, false, 0, 0, 11)) (by decide +kernel) ⟨rfl, rfl⟩ (full := s_c_23) rfl rfl ?_
  intro hM hv Q hgo
  refine hgo.1 15 [] 0 _ _ _ ?_
  refine And.intro ?_ ?_
  · intro (c1 : i < 0)
    show post (some (0, 0, 0, 0, 0)) M
    exact absurd h1 (by omega)
  · intro (c1 : 0 ≤ i)
    refine And.intro ?_ ?_
    · intro (c2 : 8 ≤ i)
      show post (some (0, 0, 0, 0, 0)) M
      exact absurd h1 (by omega)
    · intro (c2 : i < 8)
      refine And.intro (show 0 ≤ i ∧ i < 8 by omega) ?_
      show post (some (0, 0, (-2147483648), 2147483647, M 51 i)) M
      exact k1
theorem cx_65_50 {b : Bool} {A : Nat → Nat} {h0 : g_H} {d : Nat} {M : xa_M} {post : Option xa_V → xa_M → Prop} {l1 u1 : Int} {x1 : Int} (h1 : 0 ≤ x1 ∧ x1 < 8) (k1 : post (some (1, 0, (-2147483648), 2147483647, M 51 x1)) M) : xa_C (xl_I b) A h0 (d + 2) 65 [(2, 50, 0, 0, 0), (0, 0, l1, u1, x1)] M post := by
  refine xa_C_arg [(2, 50, 0, 0, 0), (0, 0, (-2147483648), 2147483647, x1)] (xa_svR (xa_svI (fun _ _ _ _ => by omega) (xa_sv0))) ?_
  refine xa_meth (Q0 := (2, 3, false, 0, 0, 0)) (by decide +kernel) ⟨rfl, rfl⟩ (full := s_c_65) rfl rfl ?_
  intro hM hv Q hgo
  refine hgo.1 10 [] 0 _ _ _ ?_
  show xa_C (xl_I _) A h0 _ 23 [(2, 51, 0, 0, 0), (0, 0, (-2147483648), 2147483647, x1)] M _
  refine cx_23_51 (show 0 ≤ x1 ∧ x1 < 8 by omega) ?_
  show post (some (1, 0, (-2147483648), 2147483647, M 51 x1)) M
  exact k1
theorem cx_23_52 {b : Bool} {A : Nat → Nat} {h0 : g_H} {d : Nat} {M : xa_M} {post : Option xa_V → xa_M → Prop} {l1 u1 : Int} {i : Int} (h1 : 0 ≤ i ∧ i < 8) (k1 : post (some (0, 0, (-2147483648), 2147483647, M 52 i)) M) : xa_C (xl_I b) A h0 (d + 1) 23 [(2, 52, 0, 0, 0), (0, 0, l1, u1, i)] M post := by
  refine xa_C_arg [(2, 52, 0, 0, 0), (0, 0, (-2147483648), 2147483647, i)] (xa_svR (xa_svI (fun _ _ _ _ => by omega) xa_sv0)) ?_
  refine xa_meth (Q0 := (2, 1, false, 0, 0, 11)) (by decide +kernel) ⟨rfl, rfl⟩ (full := s_c_23) rfl rfl ?_
  intro hM hv Q hgo
  refine hgo.1 15 [] 0 _ _ _ ?_
  refine And.intro ?_ ?_
  · intro (c1 : i < 0)
    show post (some (0, 0, 0, 0, 0)) M
    exact absurd h1 (by omega)
  · intro (c1 : 0 ≤ i)
    refine And.intro ?_ ?_
    · intro (c2 : 8 ≤ i)
      show post (some (0, 0, 0, 0, 0)) M
      exact absurd h1 (by omega)
    · intro (c2 : i < 8)
      refine And.intro (show 0 ≤ i ∧ i < 8 by omega) ?_
      show post (some (0, 0, (-2147483648), 2147483647, M 52 i)) M
      exact k1
theorem cx_64_50 {b : Bool} {A : Nat → Nat} {h0 : g_H} {d : Nat} {M : xa_M} {post : Option xa_V → xa_M → Prop} {l1 u1 : Int} {x1 : Int} (h1 : 0 ≤ x1 ∧ x1 < 8) (k1 : post (some (1, 0, (-2147483648), 2147483647, M 52 x1)) M) : xa_C (xl_I b) A h0 (d + 2) 64 [(2, 50, 0, 0, 0), (0, 0, l1, u1, x1)] M post := by
  refine xa_C_arg [(2, 50, 0, 0, 0), (0, 0, (-2147483648), 2147483647, x1)] (xa_svR (xa_svI (fun _ _ _ _ => by omega) (xa_sv0))) ?_
  refine xa_meth (Q0 := (2, 3, false, 0, 0, 0)) (by decide +kernel) ⟨rfl, rfl⟩ (full := s_c_64) rfl rfl ?_
  intro hM hv Q hgo
  refine hgo.1 10 [] 0 _ _ _ ?_
  show xa_C (xl_I _) A h0 _ 23 [(2, 52, 0, 0, 0), (0, 0, (-2147483648), 2147483647, x1)] M _
  refine cx_23_52 (show 0 ≤ x1 ∧ x1 < 8 by omega) ?_
  show post (some (1, 0, (-2147483648), 2147483647, M 52 x1)) M
  exact k1
theorem cx_86_50 {A : Nat → Nat} {h0 : g_H} {d : Nat} {M : xa_M} {post : Option xa_V → xa_M → Prop} {l1 u1 l2 u2 x1 x2 : Int} {F : Int → Int} {N : xa_M} (hT : tk_M N) (hR : tk_R M N) (hB : tk_B 50 M N) (hFF : 1 ≤ x1 ∧ x1 ≤ 9 → tk_Y N x1 F) (k : ∀ (r : Int) (M1 : xa_M), tk_S N x1 x2 r (M1 15 10) (M1 21) (M1 22) → (r = 0 → tk_A N x2 M1) → (∀ q j, ¬ (15 ≤ q ∧ q ≤ 24) → M1 q j = M q j) → post (some (0, 0, (-4), 0, r)) M1) : xa_C (xl_I false) A h0 (d + 6) 86 [(2, 0, 0, 0, 0), (0, 0, l1, u1, x1), (0, 0, l2, u2, x2)] M post := by
  refine xa_C_wk ?_
  refine xa_C_arg [(2, 0, 0, 0, 0), (0, 0, (-2147483648), 2147483647, x1), (0, 0, (-2147483648), 2147483647, x2)] (xa_svR (xa_svI (fun _ _ _ _ => by omega) (xa_svI (fun _ _ _ _ => by omega) xa_sv0))) ?_
  refine xa_meth (Q0 := (3, 1, false, 0, 0, 11)) (by decide +kernel) ⟨rfl, rfl⟩ (full := s_c_86) rfl rfl ?_
  intro hM hv Q hgo
  have hB4 : M 50 4 = N 60 11 := hB.1
  have hB8 := hB.2.1
  have hF0 : 1 ≤ x1 ∧ x1 ≤ 9 → 0 < F 0 := fun h => by
    have := (hFF h).1.1.2.1 0 (by decide) (by decide) (by omega)
    omega
  refine hgo.1 38 [] 0 _ _ _ ?_
  show xa_C (xl_I _) A h0 _ 14 [(0, 0, (-2147483648), 2147483647, x1)] M _
  refine cx_14 ?_ ?_ ?_
  · intro (i1 : x1 < 0)
    show xa_wk post (some (0, 0, (-1), (-1), (-1))) M
    exact xa_wkI (-1) rfl (fun _ _ => by omega) (k (-1) M (Or.inl ⟨fun h => by omega, rfl⟩) (fun h => by omega) (fun _ _ _ => rfl))
  · intro (i2 : 0 ≤ x1) (i3 : 10 ≤ x1)
    show xa_wk post (some (0, 0, (-1), (-1), (-1))) M
    exact xa_wkI (-1) rfl (fun _ _ => by omega) (k (-1) M (Or.inl ⟨fun h => by omega, rfl⟩) (fun h => by omega) (fun _ _ _ => rfl))
  · intro (i4 : 0 ≤ x1) (i5 : x1 < 10)
    refine And.intro ?_ ?_
    · intro (c6 : x1 = 0)
      show xa_wk post (some (0, 0, (-1), (-1), (-1))) M
      exact xa_wkI (-1) rfl (fun _ _ => by omega) (k (-1) M (Or.inl ⟨fun h => by omega, rfl⟩) (fun h => by omega) (fun _ _ _ => rfl))
    · intro (c6 : ¬ x1 = 0)
      show xa_C (xl_I _) A h0 _ 87 [(2, 50, 0, 0, 0), (0, 0, (-2147483648), 2147483647, x2)] M _
      refine cx_87_50 ?_ ?_ ?_
      · intro (i7 : x2 < 0)
        show xa_wk post (some (0, 0, (-1), (-1), (-1))) M
        exact xa_wkI (-1) rfl (fun _ _ => by omega) (k (-1) M (Or.inl ⟨fun h => by omega, rfl⟩) (fun h => by omega) (fun _ _ _ => rfl))
      · intro (i8 : 0 ≤ x2) (i9 : (M 50 4) ≤ x2)
        show xa_wk post (some (0, 0, (-1), (-1), (-1))) M
        exact xa_wkI (-1) rfl (fun _ _ => by omega) (k (-1) M (Or.inl ⟨fun h => by omega, rfl⟩) (fun h => by omega) (fun _ _ _ => rfl))
      · intro (i10 : 0 ≤ x2) (i11 : x2 < (M 50 4))
        show xa_C (xl_I _) A h0 _ 74 [(2, 15, 0, 0, 0), (2, 1, 0, 0, 0), (0, 0, (-2147483648), 2147483647, x1)] M _
        refine cx_74s (tk_R_F hT hR (hFF (by omega))) (by omega) (tk_R_m hT hR).1 (tk_R_m hT hR).2.1 (tk_R_m hT hR).2.2.1 (tk_R_m hT hR).2.2.2 (hF0 (by omega)) ?_
        intro r102 M101 (i12 : F 0 < 99 → r102 = 1 ∧ M101 16 4 = F 0 ∧ (wp_Q (M 1 10) (M 5) (M 7) (M 8) F (F 0) (M101 18) (M101 19) (M101 20) (F 0)) ∧ (wf_W (M101 19) (M101 20) (M 2) (M 3) (F 0) (M101 15 10) (M101 21) (M101 22) (M101 23) (M101 24) (M 1 9))) (i13 : 99 ≤ F 0 → r102 = 0) (i14 : ∀ q j, ¬ (15 ≤ q ∧ q ≤ 24) → M101 q j = M q j)
        have g74 := tk_af hT hR (by omega) (hFF (by omega)) i12 i13
        have hbk : 0 ≤ x2 → x2 < N 60 11 → (M101 51 x2 = N 70 x2 ∧ M101 52 x2 = N 71 x2) ∧ (1 ≤ M101 51 x2 ∧ M101 51 x2 ≤ 2000) ∧ (1 ≤ M101 52 x2 ∧ M101 52 x2 ≤ 2000) := fun a b => by
          have h := hB.2.2 x2 a b
          rw [i14 51 x2 (by omega), i14 52 x2 (by omega)]
          obtain ⟨⟨z1, z2⟩, z3, z4⟩ := h
          have z1 : M 51 x2 = N 70 x2 := z1
          have z2 : M 52 x2 = N 71 x2 := z2
          omega
        refine And.intro ?_ ?_
        · intro (c15 : ¬ r102 = 0)
          show xa_C (xl_I _) A h0 _ 88 [(2, 15, 0, 0, 0)] M101 _
          refine cx_88f (by have := (g74.2 (by omega)).2.1; omega) (fun i i0 i1 => ((g74.2 (by omega)).2.2.2 i i0 i1).2) ?_
          intro r103 (i16 : r103 = 0 ∨ r103 = 1) (i17 : r103 = 1 ↔ fs_pr (M101 23) (M101 24) (M101 15 10).toNat ≤ 200000)
          refine And.intro ?_ ?_
          · intro (c18 : ¬ r103 = 0)
            show xa_C (xl_I _) A h0 _ 65 [(2, 50, 0, 0, 0), (0, 0, (-2147483648), 2147483647, x2)] M101 _
            refine cx_65_50 (show 0 ≤ x2 ∧ x2 < 8 by omega) ?_
            show xa_C (xl_I _) A h0 _ 64 [(2, 50, 0, 0, 0), (0, 0, (-2147483648), 2147483647, x2)] M101 _
            refine cx_64_50 (show 0 ≤ x2 ∧ x2 < 8 by omega) ?_
            show xa_C (xl_I _) A h0 _ 90 [(2, 15, 0, 0, 0), (1, 0, (-2147483648), 2147483647, M101 51 x2), (1, 0, (-2147483648), 2147483647, M101 52 x2)] M101 _
            refine cx_90f (by have := hbk (by omega) (by omega); omega) (by have := hbk (by omega) (by omega); omega) ?_
            intro g104 (i19 : g104 = (Int.gcd (M101 51 x2) (M101 52 x2) : Int)) (i20 : 1 ≤ g104) (i21 : g104 ≤ (M101 51 x2)) (i22 : g104 ≤ (M101 52 x2))
            show xa_wk post (some (0, 0, 0, 0, 0)) (xa_up (xa_up (xa_up M101 15 11 ((M101 51 x2) / g104)) 15 12 ((M101 52 x2) / g104)) 15 13 0)
            obtain ⟨q1, q2, q3, q4⟩ := g74.2 (by omega)
            obtain ⟨⟨b1, b2⟩, b3, b4⟩ := hbk (by omega) (by omega)
            obtain ⟨a1, a2, a3⟩ := tk_aim q1 (by rw [q3]; exact i17.mp (by omega)) ⟨⟨by omega, by omega⟩, by omega, by omega⟩ (fun i i0 i1 => (q4 i i0 i1).1) b1 b2 b3 b4 i19 i20 rfl
            exact xa_wkI 0 rfl (fun _ _ => by omega) (k 0 _ a1 (fun _ => a2) (fun q j h => (a3 q j (by omega)).trans (i14 q j h)))
          · intro (c18 : r103 = 0)
            show xa_wk post (some (0, 0, (-4), (-4), (-4))) M101
            obtain ⟨q1, q2, q3, q4⟩ := g74.2 (by omega)
            exact xa_wkI (-4) rfl (fun _ _ => by omega) (k (-4) _ (Or.inr ⟨⟨by omega, by omega⟩, Or.inr ⟨q1, Or.inl ⟨by rw [q3]; exact Int.lt_of_not_ge (fun h => absurd (i17.mpr h) (by omega)), rfl⟩⟩⟩) (fun h => by omega) i14)
        · intro (c15 : r102 = 0)
          show xa_wk post (some (0, 0, (-2), (-2), (-2))) M101
          exact xa_wkI (-2) rfl (fun _ _ => by omega) (k (-2) _ (Or.inr ⟨⟨by omega, by omega⟩, Or.inl ⟨g74.1 (by omega), rfl⟩⟩) (fun h => by omega) i14)
theorem cx_87_55 {b : Bool} {A : Nat → Nat} {h0 : g_H} {d : Nat} {M : xa_M} {post : Option xa_V → xa_M → Prop} {l1 u1 : Int} {x1 : Int} (k1 : (x1 < 0) → post (some (0, 0, 0, 0, 0)) M) (k2 : (0 ≤ x1) → ((M 55 4) ≤ x1) → post (some (0, 0, 0, 0, 0)) M) (k3 : (0 ≤ x1) → (x1 < (M 55 4)) → post (some (0, 0, 1, 1, 1)) M) : xa_C (xl_I b) A h0 (d + 1) 87 [(2, 55, 0, 0, 0), (0, 0, l1, u1, x1)] M post := by
  refine xa_C_arg [(2, 55, 0, 0, 0), (0, 0, (-2147483648), 2147483647, x1)] (xa_svR (xa_svI (fun _ _ _ _ => by omega) (xa_sv0))) ?_
  refine xa_meth (Q0 := (2, 2, false, 0, 0, 0)) (by decide +kernel) ⟨rfl, rfl⟩ (full := s_c_87) rfl rfl ?_
  intro hM hv Q hgo
  refine hgo.1 13 [] 0 _ _ _ ?_
  refine And.intro ?_ ?_
  · intro (c1 : x1 < 0)
    show post (some (0, 0, 0, 0, 0)) M
    exact k1 c1
  · intro (c1 : 0 ≤ x1)
    refine And.intro ?_ ?_
    · intro (c2 : (M 55 4) ≤ x1)
      show post (some (0, 0, 0, 0, 0)) M
      exact k2 c1 c2
    · intro (c2 : x1 < (M 55 4))
      show post (some (0, 0, 1, 1, 1)) M
      exact k3 c1 c2
theorem cx_23_56 {b : Bool} {A : Nat → Nat} {h0 : g_H} {d : Nat} {M : xa_M} {post : Option xa_V → xa_M → Prop} {l1 u1 : Int} {i : Int} (h1 : 0 ≤ i ∧ i < 8) (k1 : post (some (0, 0, (-2147483648), 2147483647, M 56 i)) M) : xa_C (xl_I b) A h0 (d + 1) 23 [(2, 56, 0, 0, 0), (0, 0, l1, u1, i)] M post := by
  refine xa_C_arg [(2, 56, 0, 0, 0), (0, 0, (-2147483648), 2147483647, i)] (xa_svR (xa_svI (fun _ _ _ _ => by omega) xa_sv0)) ?_
  refine xa_meth (Q0 := (2, 1, false, 0, 0, 11)) (by decide +kernel) ⟨rfl, rfl⟩ (full := s_c_23) rfl rfl ?_
  intro hM hv Q hgo
  refine hgo.1 15 [] 0 _ _ _ ?_
  refine And.intro ?_ ?_
  · intro (c1 : i < 0)
    show post (some (0, 0, 0, 0, 0)) M
    exact absurd h1 (by omega)
  · intro (c1 : 0 ≤ i)
    refine And.intro ?_ ?_
    · intro (c2 : 8 ≤ i)
      show post (some (0, 0, 0, 0, 0)) M
      exact absurd h1 (by omega)
    · intro (c2 : i < 8)
      refine And.intro (show 0 ≤ i ∧ i < 8 by omega) ?_
      show post (some (0, 0, (-2147483648), 2147483647, M 56 i)) M
      exact k1
theorem cx_65_55 {b : Bool} {A : Nat → Nat} {h0 : g_H} {d : Nat} {M : xa_M} {post : Option xa_V → xa_M → Prop} {l1 u1 : Int} {x1 : Int} (h1 : 0 ≤ x1 ∧ x1 < 8) (k1 : post (some (1, 0, (-2147483648), 2147483647, M 56 x1)) M) : xa_C (xl_I b) A h0 (d + 2) 65 [(2, 55, 0, 0, 0), (0, 0, l1, u1, x1)] M post := by
  refine xa_C_arg [(2, 55, 0, 0, 0), (0, 0, (-2147483648), 2147483647, x1)] (xa_svR (xa_svI (fun _ _ _ _ => by omega) (xa_sv0))) ?_
  refine xa_meth (Q0 := (2, 3, false, 0, 0, 0)) (by decide +kernel) ⟨rfl, rfl⟩ (full := s_c_65) rfl rfl ?_
  intro hM hv Q hgo
  refine hgo.1 10 [] 0 _ _ _ ?_
  show xa_C (xl_I _) A h0 _ 23 [(2, 56, 0, 0, 0), (0, 0, (-2147483648), 2147483647, x1)] M _
  refine cx_23_56 (show 0 ≤ x1 ∧ x1 < 8 by omega) ?_
  show post (some (1, 0, (-2147483648), 2147483647, M 56 x1)) M
  exact k1
theorem cx_23_57 {b : Bool} {A : Nat → Nat} {h0 : g_H} {d : Nat} {M : xa_M} {post : Option xa_V → xa_M → Prop} {l1 u1 : Int} {i : Int} (h1 : 0 ≤ i ∧ i < 8) (k1 : post (some (0, 0, (-2147483648), 2147483647, M 57 i)) M) : xa_C (xl_I b) A h0 (d + 1) 23 [(2, 57, 0, 0, 0), (0, 0, l1, u1, i)] M post := by
  refine xa_C_arg [(2, 57, 0, 0, 0), (0, 0, (-2147483648), 2147483647, i)] (xa_svR (xa_svI (fun _ _ _ _ => by omega) xa_sv0)) ?_
  refine xa_meth (Q0 := (2, 1, false, 0, 0, 11)) (by decide +kernel) ⟨rfl, rfl⟩ (full := s_c_23) rfl rfl ?_
  intro hM hv Q hgo
  refine hgo.1 15 [] 0 _ _ _ ?_
  refine And.intro ?_ ?_
  · intro (c1 : i < 0)
    show post (some (0, 0, 0, 0, 0)) M
    exact absurd h1 (by omega)
  · intro (c1 : 0 ≤ i)
    refine And.intro ?_ ?_
    · intro (c2 : 8 ≤ i)
      show post (some (0, 0, 0, 0, 0)) M
      exact absurd h1 (by omega)
    · intro (c2 : i < 8)
      refine And.intro (show 0 ≤ i ∧ i < 8 by omega) ?_
      show post (some (0, 0, (-2147483648), 2147483647, M 57 i)) M
      exact k1
theorem cx_64_55 {b : Bool} {A : Nat → Nat} {h0 : g_H} {d : Nat} {M : xa_M} {post : Option xa_V → xa_M → Prop} {l1 u1 : Int} {x1 : Int} (h1 : 0 ≤ x1 ∧ x1 < 8) (k1 : post (some (1, 0, (-2147483648), 2147483647, M 57 x1)) M) : xa_C (xl_I b) A h0 (d + 2) 64 [(2, 55, 0, 0, 0), (0, 0, l1, u1, x1)] M post := by
  refine xa_C_arg [(2, 55, 0, 0, 0), (0, 0, (-2147483648), 2147483647, x1)] (xa_svR (xa_svI (fun _ _ _ _ => by omega) (xa_sv0))) ?_
  refine xa_meth (Q0 := (2, 3, false, 0, 0, 0)) (by decide +kernel) ⟨rfl, rfl⟩ (full := s_c_64) rfl rfl ?_
  intro hM hv Q hgo
  refine hgo.1 10 [] 0 _ _ _ ?_
  show xa_C (xl_I _) A h0 _ 23 [(2, 57, 0, 0, 0), (0, 0, (-2147483648), 2147483647, x1)] M _
  refine cx_23_57 (show 0 ≤ x1 ∧ x1 < 8 by omega) ?_
  show post (some (1, 0, (-2147483648), 2147483647, M 57 x1)) M
  exact k1
theorem cx_86_55 {A : Nat → Nat} {h0 : g_H} {d : Nat} {M : xa_M} {post : Option xa_V → xa_M → Prop} {l1 u1 l2 u2 x1 x2 : Int} {F : Int → Int} {N : xa_M} (hT : tk_M N) (hR : tk_R M N) (hB : tk_B 55 M N) (hFF : 1 ≤ x1 ∧ x1 ≤ 9 → tk_Y N x1 F) (k : ∀ (r : Int) (M1 : xa_M), tk_S N x1 x2 r (M1 15 10) (M1 21) (M1 22) → (r = 0 → tk_A N x2 M1) → (∀ q j, ¬ (15 ≤ q ∧ q ≤ 24) → M1 q j = M q j) → post (some (0, 0, (-4), 0, r)) M1) : xa_C (xl_I true) A h0 (d + 6) 86 [(2, 0, 0, 0, 0), (0, 0, l1, u1, x1), (0, 0, l2, u2, x2)] M post := by
  refine xa_C_wk ?_
  refine xa_C_arg [(2, 0, 0, 0, 0), (0, 0, (-2147483648), 2147483647, x1), (0, 0, (-2147483648), 2147483647, x2)] (xa_svR (xa_svI (fun _ _ _ _ => by omega) (xa_svI (fun _ _ _ _ => by omega) xa_sv0))) ?_
  refine xa_meth (Q0 := (3, 1, false, 0, 0, 11)) (by decide +kernel) ⟨rfl, rfl⟩ (full := s_c_86) rfl rfl ?_
  intro hM hv Q hgo
  have hB4 : M 55 4 = N 60 11 := hB.1
  have hB8 := hB.2.1
  have hF0 : 1 ≤ x1 ∧ x1 ≤ 9 → 0 < F 0 := fun h => by
    have := (hFF h).1.1.2.1 0 (by decide) (by decide) (by omega)
    omega
  refine hgo.1 38 [] 0 _ _ _ ?_
  show xa_C (xl_I _) A h0 _ 14 [(0, 0, (-2147483648), 2147483647, x1)] M _
  refine cx_14 ?_ ?_ ?_
  · intro (i1 : x1 < 0)
    show xa_wk post (some (0, 0, (-1), (-1), (-1))) M
    exact xa_wkI (-1) rfl (fun _ _ => by omega) (k (-1) M (Or.inl ⟨fun h => by omega, rfl⟩) (fun h => by omega) (fun _ _ _ => rfl))
  · intro (i2 : 0 ≤ x1) (i3 : 10 ≤ x1)
    show xa_wk post (some (0, 0, (-1), (-1), (-1))) M
    exact xa_wkI (-1) rfl (fun _ _ => by omega) (k (-1) M (Or.inl ⟨fun h => by omega, rfl⟩) (fun h => by omega) (fun _ _ _ => rfl))
  · intro (i4 : 0 ≤ x1) (i5 : x1 < 10)
    refine And.intro ?_ ?_
    · intro (c6 : x1 = 0)
      show xa_wk post (some (0, 0, (-1), (-1), (-1))) M
      exact xa_wkI (-1) rfl (fun _ _ => by omega) (k (-1) M (Or.inl ⟨fun h => by omega, rfl⟩) (fun h => by omega) (fun _ _ _ => rfl))
    · intro (c6 : ¬ x1 = 0)
      show xa_C (xl_I _) A h0 _ 87 [(2, 55, 0, 0, 0), (0, 0, (-2147483648), 2147483647, x2)] M _
      refine cx_87_55 ?_ ?_ ?_
      · intro (i7 : x2 < 0)
        show xa_wk post (some (0, 0, (-1), (-1), (-1))) M
        exact xa_wkI (-1) rfl (fun _ _ => by omega) (k (-1) M (Or.inl ⟨fun h => by omega, rfl⟩) (fun h => by omega) (fun _ _ _ => rfl))
      · intro (i8 : 0 ≤ x2) (i9 : (M 55 4) ≤ x2)
        show xa_wk post (some (0, 0, (-1), (-1), (-1))) M
        exact xa_wkI (-1) rfl (fun _ _ => by omega) (k (-1) M (Or.inl ⟨fun h => by omega, rfl⟩) (fun h => by omega) (fun _ _ _ => rfl))
      · intro (i10 : 0 ≤ x2) (i11 : x2 < (M 55 4))
        show xa_C (xl_I _) A h0 _ 74 [(2, 15, 0, 0, 0), (2, 1, 0, 0, 0), (0, 0, (-2147483648), 2147483647, x1)] M _
        refine cx_74s (tk_R_F hT hR (hFF (by omega))) (by omega) (tk_R_m hT hR).1 (tk_R_m hT hR).2.1 (tk_R_m hT hR).2.2.1 (tk_R_m hT hR).2.2.2 (hF0 (by omega)) ?_
        intro r102 M101 (i12 : F 0 < 99 → r102 = 1 ∧ M101 16 4 = F 0 ∧ (wp_Q (M 1 10) (M 5) (M 7) (M 8) F (F 0) (M101 18) (M101 19) (M101 20) (F 0)) ∧ (wf_W (M101 19) (M101 20) (M 2) (M 3) (F 0) (M101 15 10) (M101 21) (M101 22) (M101 23) (M101 24) (M 1 9))) (i13 : 99 ≤ F 0 → r102 = 0) (i14 : ∀ q j, ¬ (15 ≤ q ∧ q ≤ 24) → M101 q j = M q j)
        have g74 := tk_af hT hR (by omega) (hFF (by omega)) i12 i13
        have hbk : 0 ≤ x2 → x2 < N 60 11 → (M101 56 x2 = N 70 x2 ∧ M101 57 x2 = N 71 x2) ∧ (1 ≤ M101 56 x2 ∧ M101 56 x2 ≤ 2000) ∧ (1 ≤ M101 57 x2 ∧ M101 57 x2 ≤ 2000) := fun a b => by
          have h := hB.2.2 x2 a b
          rw [i14 56 x2 (by omega), i14 57 x2 (by omega)]
          obtain ⟨⟨z1, z2⟩, z3, z4⟩ := h
          have z1 : M 56 x2 = N 70 x2 := z1
          have z2 : M 57 x2 = N 71 x2 := z2
          omega
        refine And.intro ?_ ?_
        · intro (c15 : ¬ r102 = 0)
          show xa_C (xl_I _) A h0 _ 88 [(2, 15, 0, 0, 0)] M101 _
          refine cx_88f (by have := (g74.2 (by omega)).2.1; omega) (fun i i0 i1 => ((g74.2 (by omega)).2.2.2 i i0 i1).2) ?_
          intro r103 (i16 : r103 = 0 ∨ r103 = 1) (i17 : r103 = 1 ↔ fs_pr (M101 23) (M101 24) (M101 15 10).toNat ≤ 200000)
          refine And.intro ?_ ?_
          · intro (c18 : ¬ r103 = 0)
            show xa_C (xl_I _) A h0 _ 65 [(2, 55, 0, 0, 0), (0, 0, (-2147483648), 2147483647, x2)] M101 _
            refine cx_65_55 (show 0 ≤ x2 ∧ x2 < 8 by omega) ?_
            show xa_C (xl_I _) A h0 _ 64 [(2, 55, 0, 0, 0), (0, 0, (-2147483648), 2147483647, x2)] M101 _
            refine cx_64_55 (show 0 ≤ x2 ∧ x2 < 8 by omega) ?_
            show xa_C (xl_I _) A h0 _ 90 [(2, 15, 0, 0, 0), (1, 0, (-2147483648), 2147483647, M101 56 x2), (1, 0, (-2147483648), 2147483647, M101 57 x2)] M101 _
            refine cx_90f (by have := hbk (by omega) (by omega); omega) (by have := hbk (by omega) (by omega); omega) ?_
            intro g104 (i19 : g104 = (Int.gcd (M101 56 x2) (M101 57 x2) : Int)) (i20 : 1 ≤ g104) (i21 : g104 ≤ (M101 56 x2)) (i22 : g104 ≤ (M101 57 x2))
            show xa_wk post (some (0, 0, 0, 0, 0)) (xa_up (xa_up (xa_up M101 15 11 ((M101 56 x2) / g104)) 15 12 ((M101 57 x2) / g104)) 15 13 0)
            obtain ⟨q1, q2, q3, q4⟩ := g74.2 (by omega)
            obtain ⟨⟨b1, b2⟩, b3, b4⟩ := hbk (by omega) (by omega)
            obtain ⟨a1, a2, a3⟩ := tk_aim q1 (by rw [q3]; exact i17.mp (by omega)) ⟨⟨by omega, by omega⟩, by omega, by omega⟩ (fun i i0 i1 => (q4 i i0 i1).1) b1 b2 b3 b4 i19 i20 rfl
            exact xa_wkI 0 rfl (fun _ _ => by omega) (k 0 _ a1 (fun _ => a2) (fun q j h => (a3 q j (by omega)).trans (i14 q j h)))
          · intro (c18 : r103 = 0)
            show xa_wk post (some (0, 0, (-4), (-4), (-4))) M101
            obtain ⟨q1, q2, q3, q4⟩ := g74.2 (by omega)
            exact xa_wkI (-4) rfl (fun _ _ => by omega) (k (-4) _ (Or.inr ⟨⟨by omega, by omega⟩, Or.inr ⟨q1, Or.inl ⟨by rw [q3]; exact Int.lt_of_not_ge (fun h => absurd (i17.mpr h) (by omega)), rfl⟩⟩⟩) (fun h => by omega) i14)
        · intro (c15 : r102 = 0)
          show xa_wk post (some (0, 0, (-2), (-2), (-2))) M101
          exact xa_wkI (-2) rfl (fun _ _ => by omega) (k (-2) _ (Or.inr ⟨⟨by omega, by omega⟩, Or.inl ⟨g74.1 (by omega), rfl⟩⟩) (fun h => by omega) i14)
theorem cx_23_21 {b : Bool} {A : Nat → Nat} {h0 : g_H} {d : Nat} {M : xa_M} {post : Option xa_V → xa_M → Prop} {l1 u1 : Int} {i : Int} (h1 : 0 ≤ i ∧ i < 14) (k1 : post (some (0, 0, (-2147483648), 2147483647, M 21 i)) M) : xa_C (xl_I b) A h0 (d + 1) 23 [(2, 21, 0, 0, 0), (0, 0, l1, u1, i)] M post := by
  refine xa_C_arg [(2, 21, 0, 0, 0), (0, 0, (-2147483648), 2147483647, i)] (xa_svR (xa_svI (fun _ _ _ _ => by omega) xa_sv0)) ?_
  refine xa_meth (Q0 := (2, 1, false, 0, 0, 11)) (by decide +kernel) ⟨rfl, rfl⟩ (full := s_c_23) rfl rfl ?_
  intro hM hv Q hgo
  refine hgo.1 15 [] 0 _ _ _ ?_
  refine And.intro ?_ ?_
  · intro (c1 : i < 0)
    show post (some (0, 0, 0, 0, 0)) M
    exact absurd h1 (by omega)
  · intro (c1 : 0 ≤ i)
    refine And.intro ?_ ?_
    · intro (c2 : 14 ≤ i)
      show post (some (0, 0, 0, 0, 0)) M
      exact absurd h1 (by omega)
    · intro (c2 : i < 14)
      refine And.intro (show 0 ≤ i ∧ i < 14 by omega) ?_
      show post (some (0, 0, (-2147483648), 2147483647, M 21 i)) M
      exact k1
theorem cx_29_1 {b : Bool} {A : Nat → Nat} {h0 : g_H} {d : Nat} {M : xa_M} {post : Option xa_V → xa_M → Prop} {l1 u1 l2 u2 : Int} {x1 x2 : Int} (h1 : 0 ≤ x1 ∧ x1 < 14) (k1 : post none (xa_up M 4 x1 x2)) : xa_C (xl_I b) A h0 (d + 2) 29 [(2, 1, 0, 0, 0), (0, 0, l1, u1, x1), (0, 0, l2, u2, x2)] M post := by
  refine xa_C_arg [(2, 1, 0, 0, 0), (0, 0, (-2147483648), 2147483647, x1), (0, 0, (-2147483648), 2147483647, x2)] (xa_svR (xa_svI (fun _ _ _ _ => by omega) (xa_svI (fun _ _ _ _ => by omega) (xa_sv0)))) ?_
  refine xa_meth (Q0 := (3, 0, false, 0, 0, 1)) (by decide +kernel) ⟨rfl, rfl⟩ (full := s_c_29) rfl rfl ?_
  intro hM hv Q hgo
  refine hgo.1 10 [] 0 _ _ _ ?_
  show xa_C (xl_I b) A h0 _ 18 [(2, 4, 0, 0, 0), (0, 0, (-2147483648), 2147483647, x1), (0, 0, (-2147483648), 2147483647, x2)] M _
  refine cx_18_4 (show 0 ≤ x1 ∧ x1 < 14 by omega) ?_
  show post none (xa_up M 4 x1 x2)
  exact k1
theorem cx_100t {b : Bool} {A : Nat → Nat} {h0 : g_H} {d : Nat} {M : xa_M} {post : Option xa_V → xa_M → Prop} (hs : 0 ≤ M 15 10 ∧ M 15 10 ≤ 14) (hw : ∀ i : Int, 0 ≤ i → i < M 15 10 → 0 ≤ M 21 i ∧ M 21 i < 14) (hi : ∀ i j : Int, 0 ≤ i → i < M 15 10 → 0 ≤ j → j < M 15 10 → M 21 i = M 21 j → i = j) (k : ∀ M1 : xa_M, (∀ (q : Nat) (j : Int), ¬ q = 4 → M1 q j = M q j) → (∀ j : Int, 0 ≤ j → j < M 15 10 → M1 4 (M 21 j) = M 25 j) → (∀ w : Int, (∀ j : Int, 0 ≤ j → j < M 15 10 → ¬ M 21 j = w) → M1 4 w = M 4 w) → post none M1) : xa_C (xl_I b) A h0 (d + 3) 100 [(2, 15, 0, 0, 0), (2, 1, 0, 0, 0)] M post := by
  refine xa_meth (Q0 := (3, 0, false, 0, 0, 3)) (by decide +kernel) ⟨rfl, rfl⟩ (full := s_c_100) rfl rfl ?_
  intro hM hv Q hgo
  have loop : ∀ (f : Nat) (i : Int) (M1 : xa_M), 0 ≤ i ∧ i ≤ M 15 10 → (∀ (q : Nat) (j : Int), ¬ q = 4 → M1 q j = M q j) → (∀ j : Int, 0 ≤ j → j < i → M1 4 (M 21 j) = M 25 j) → (∀ w : Int, (∀ j : Int, 0 ≤ j → j < i → ¬ M 21 j = w) → M1 4 w = M 4 w) → 14 - i < (f : Int) → Q 2 [(2, (0, 0, 0, 14, i)), (1, (2, 1, 0, 0, 0)), (0, (2, 15, 0, 0, 0))] [] M1 := by
    intro f
    induction f with
    | zero => intro i M1 i1 hk ht hn hms; omega
    | succ f ih =>
      intro i M1 i1 hk ht hn hms
      have e10 := hk 15 10 (by decide)
      have e21 := hk 21 i (by decide)
      have e25 := hk 25 i (by decide)
      have w21 : i < M 15 10 → 0 ≤ M1 21 i ∧ M1 21 i < 14 := fun h => by
        rw [e21]
        exact hw i i1.1 h
      refine hgo.1 21 [2] 2 _ _ _ ?_
      refine And.intro ?_ ?_
      · intro (c1 : (M1 15 10) ≤ i)
        show post none M1
        have ex : i = M 15 10 := by omega
        exact k M1 hk (by rw [← ex]; exact ht) (by rw [← ex]; exact hn)
      · intro (c1 : i < (M1 15 10))
        show xa_C (xl_I b) A h0 _ 23 [(2, 21, 0, 0, 0), (0, 0, 0, 14, i)] M1 _
        refine cx_23_21 (show 0 ≤ i ∧ i < 14 by omega) ?_
        show xa_C (xl_I b) A h0 _ 23 [(2, 25, 0, 0, 0), (0, 0, 0, 14, i)] M1 _
        refine cx_23_25 (show 0 ≤ i ∧ i < 14 by omega) ?_
        show xa_C (xl_I b) A h0 _ 29 [(2, 1, 0, 0, 0), (0, 0, (-2147483648), 2147483647, M1 21 i), (0, 0, (-2147483648), 2147483647, M1 25 i)] M1 _
        refine cx_29_1 (show 0 ≤ (M1 21 i) ∧ (M1 21 i) < 14 by omega) ?_
        show Q 2 [(2, (0, 0, 1, 15, i + 1)), (1, (2, 1, 0, 0, 0)), (0, (2, 15, 0, 0, 0))] [] (xa_up M1 4 (M1 21 i) (M1 25 i))
        refine hgo.2.1 2 _ [(2, (0, 0, 0, 14, i + 1)), (1, (2, 1, 0, 0, 0)), (0, (2, 15, 0, 0, 0))] _ _ (xa_subI rfl rfl (fun _ _ _ _ => by omega) (xa_subR rfl (xa_subR rfl (xa_sub0)))) ?_
        refine ih (i + 1) (xa_up M1 4 (M1 21 i) (M1 25 i)) (by omega) (fun q j hq => (xa_up_ne (fun h => hq h.1)).trans (hk q j hq)) (fun j j0 j1 => ?_) (fun w hw9 => ?_) (by omega)
        · by_cases e : j = i
          · rw [e, e21, e25]
            exact xa_up_eq
          · rw [e21]
            exact (xa_up_ne (fun h => e (hi j i j0 (by omega) i1.1 (by omega) h.2))).trans (ht j j0 (by omega))
        · rw [e21]
          exact (xa_up_ne (fun h => hw9 i i1.1 (by omega) h.2.symm)).trans (hn w (fun j j0 j1 => hw9 j j0 (by omega)))
  refine hgo.1 7 [2] 0 _ _ _ ?_
  show Q 2 [(2, (0, 0, 0, 0, 0)), (0, (2, 15, 0, 0, 0)), (1, (2, 1, 0, 0, 0))] [] M
  refine hgo.2.1 2 _ [(2, (0, 0, 0, 14, 0)), (1, (2, 1, 0, 0, 0)), (0, (2, 15, 0, 0, 0))] _ _ (xa_subI rfl rfl (fun _ _ _ _ => by omega) (xa_subR rfl (xa_subR rfl (xa_sub0)))) ?_
  exact loop 15 0 M (by omega) (fun _ _ _ => rfl) (fun j j0 j1 => by omega) (fun _ _ => rfl) (by omega)
theorem tk_c1 {N Ma M : xa_M} {X p : Int} (hT : tk_M N) (hZ : tk_Z N X p Ma) (hK : fa_K Ma M) : 0 ≤ M 15 10 ∧ M 15 10 ≤ 14 := by
  have e10 := hK 15 10 (by decide) (by decide) (by decide) (by omega)
  have := (tk_Zl hT hZ).1
  omega
theorem tk_c2 {N Ma M : xa_M} {X p : Int} (hT : tk_M N) (hZ : tk_Z N X p Ma) (hK : fa_K Ma M) (i : Int) (i0 : 0 ≤ i) (i1 : i < M 15 10) : 0 ≤ M 21 i ∧ M 21 i < 14 := by
  have e10 := hK 15 10 (by decide) (by decide) (by decide) (by omega)
  have e21 := hK 21 i (by decide) (by decide) (by decide) (by omega)
  have := ((tk_Zl hT hZ).2.2.1 i i0 (by omega)).2
  have := hT.1
  omega
theorem tk_c3 {N Ma M : xa_M} {X p : Int} (hT : tk_M N) (hZ : tk_Z N X p Ma) (hK : fa_K Ma M) (i j : Int) (i0 : 0 ≤ i) (i1 : i < M 15 10) (j0 : 0 ≤ j) (j1 : j < M 15 10) (e : M 21 i = M 21 j) : i = j := by
  have e10 := hK 15 10 (by decide) (by decide) (by decide) (by omega)
  have e1 := hK 21 i (by decide) (by decide) (by decide) (by omega)
  have e2 := hK 21 j (by decide) (by decide) (by decide) (by omega)
  exact tk_inj hT hZ.2.1 i j i0 (by omega) j0 (by omega) (by omega)
/-- fit has found the n-th -/
theorem tk_fit1 {N Ma M M1 C : xa_M} {X p n : Int} (hS : tk_S N X p 0 (Ma 15 10) (Ma 21) (Ma 22)) (hn : 0 ≤ n) (hC : ∀ w : Int, 0 ≤ w → w < 14 → Ma 4 w = N 63 w) (hK : fa_K Ma M) (v1 : tk_in N (Ma 15 10) (Ma 21) (M 25)) (v2 : tk_F N (Ma 15 10) (Ma 21) (Ma 22) p (tk_rk N (Ma 15 10) (Ma 21) (M 25))) (v3 : fs_c (tk_F N (Ma 15 10) (Ma 21) (Ma 22) p) (tk_rk N (Ma 15 10) (Ma 21) (M 25)).toNat = n) (ht : ∀ j : Int, 0 ≤ j → j < M 15 10 → M1 4 (M 21 j) = M 25 j) (ho : ∀ w : Int, (∀ j : Int, 0 ≤ j → j < M 15 10 → ¬ M 21 j = w) → M1 4 w = M 4 w) : tk_T N X p n 1 (M1 4) := by
  have e10 := hK 15 10 (by decide) (by decide) (by decide) (by omega)
  have e21 := fun j => hK 21 j (by decide) (by decide) (by decide) (by omega)
  refine Or.inr ⟨hn, 0, Ma 15 10, Ma 21, Ma 22, hS, Or.inr ⟨rfl, Or.inr ⟨rfl, M 25, v1, v2, v3, fun j j0 j1 => ?_, fun w w0 w1 hw => ?_⟩⟩⟩
  · rw [← e21 j]
    exact ht j j0 (by omega)
  · exact (ho w (fun j j0 j1 => by rw [e21 j]; exact hw j j0 (by omega))).trans ((hK 4 w (by decide) (by decide) (by decide) (by omega)).trans (hC w w0 w1))
theorem tk_fit0 {N Ma M : xa_M} {X p n m : Int} (hS : tk_S N X p 0 (Ma 15 10) (Ma 21) (Ma 22)) (hn : 0 ≤ n) (hC : ∀ w : Int, 0 ≤ w → w < 14 → Ma 4 w = N 63 w) (hK : fa_K Ma M) (hc : fs_c (tk_F N (Ma 15 10) (Ma 21) (Ma 22) p) (tk_pr N (Ma 15 10) (Ma 21)).toNat = m) (hm : m ≤ n) : tk_T N X p n 0 (M 4) :=
  Or.inr ⟨hn, 0, Ma 15 10, Ma 21, Ma 22, hS, Or.inr ⟨rfl, Or.inl ⟨rfl, by rw [hc]; exact hm, fun w w0 w1 => (hK 4 w (by decide) (by decide) (by decide) (by omega)).trans (hC w w0 w1)⟩⟩⟩
/-- all tuples are behind: none is left -/
theorem tk_all {N Ma M : xa_M} {X p n : Int} (hT : tk_M N) (hZ : tk_Z N X p Ma) (hst : tk_st N p Ma M n) (hn : 200000 ≤ n) : fs_c (tk_F N (Ma 15 10) (Ma 21) (Ma 22) p) (tk_pr N (Ma 15 10) (Ma 21)).toNat ≤ n := by
  have hb := (fs_cb (F := tk_F N (Ma 15 10) (Ma 21) (Ma 22) p) (tk_pr N (Ma 15 10) (Ma 21)).toNat).2
  have hp := hZ.2.2.1
  omega
theorem cx_99_50 {A : Nat → Nat} {h0 : g_H} {d : Nat} {M : xa_M} {post : Option xa_V → xa_M → Prop} {l1 u1 l2 u2 l3 u3 x1 x2 x3 : Int} {F : Int → Int} {N : xa_M} (hT : tk_M N) (hR : tk_R M N) (hB : tk_B 50 M N) (hFF : 1 ≤ x1 ∧ x1 ≤ 9 → tk_Y N x1 F) (hC0 : ∀ w : Int, 0 ≤ w → w < 14 → M 4 w = N 63 w) (k : ∀ (lo hi r : Int) (M1 : xa_M), tk_T N x1 x2 x3 r (M1 4) → (∀ q j, ¬ q = 4 → ¬ (15 ≤ q ∧ q ≤ 27) → M1 q j = M q j) → post (some (0, 0, lo, hi, r)) M1) : xa_C (xl_I false) A h0 (d + 7) 99 [(2, 0, 0, 0, 0), (0, 0, l1, u1, x1), (0, 0, l2, u2, x2), (0, 0, l3, u3, x3)] M post := by
  refine xa_C_arg [(2, 0, 0, 0, 0), (0, 0, (-2147483648), 2147483647, x1), (0, 0, (-2147483648), 2147483647, x2), (0, 0, (-2147483648), 2147483647, x3)] (xa_svR (xa_svI (fun _ _ _ _ => by omega) (xa_svI (fun _ _ _ _ => by omega) (xa_svI (fun _ _ _ _ => by omega) xa_sv0)))) ?_
  refine xa_meth (Q0 := (5, 2, false, 0, 0, 11)) (by decide +kernel) ⟨rfl, rfl⟩ (full := s_c_99) rfl rfl ?_
  intro hM hv Q hgo
  have loop : ∀ (Ma : xa_M), tk_S N x1 x2 0 (Ma 15 10) (Ma 21) (Ma 22) → 0 ≤ x3 → tk_Z N x1 x2 Ma → (∀ w : Int, 0 ≤ w → w < 14 → Ma 4 w = N 63 w) → (∀ M1 : xa_M, fa_K Ma M1 → ∀ (q : Nat) (j : Int), ¬ q = 4 → ¬ (15 ≤ q ∧ q ≤ 27) → M1 q j = M q j) → ∀ (f : Nat) (i : Int) (M1 : xa_M), 0 ≤ i ∧ i ≤ 200000 → fa_K Ma M1 → tk_st N x2 Ma M1 i → i ≤ x3 → 200000 - i < (f : Int) → Q 18 [(4, (0, 0, 0, 200000, i)), (3, (0, 0, (-2147483648), 2147483647, x3)), (2, (0, 0, (-2147483648), 2147483647, x2)), (1, (0, 0, (-2147483648), 2147483647, x1)), (0, (2, 0, 0, 0, 0))] [] M1 := by
    intro Ma hS hx3 hZ hC4 hfr f
    induction f with
    | zero => intro i M1 i1 hK hst hle hms; omega
    | succ f ih =>
      intro i M1 i1 hK hst hle hms
      refine hgo.1 21 [18] 18 _ _ _ ?_
      refine And.intro ?_ ?_
      · intro (c1 : 200000 ≤ i)
        show post (some (0, 0, 0, 0, 0)) M1
        exact k _ _ 0 M1 (tk_fit0 hS hx3 hC4 hK rfl (Int.le_trans (tk_all hT hZ hst (by omega)) (by omega))) (fun q j h1 h2 => hfr M1 hK q j h1 h2)
      · intro (c1 : i < 200000)
        show xa_C (xl_I _) A h0 _ 91 [(2, 15, 0, 0, 0)] M1 _
        refine cx_91t hT hZ hK hst ?_ ?_
        · intro M101 (i2 : fa_K Ma M101) (i3 : tk_in N (Ma 15 10) (Ma 21) (M101 25)) (i4 : tk_F N (Ma 15 10) (Ma 21) (Ma 22) x2 (tk_rk N (Ma 15 10) (Ma 21) (M101 25))) (i5 : fs_c (tk_F N (Ma 15 10) (Ma 21) (Ma 22) x2) (tk_rk N (Ma 15 10) (Ma 21) (M101 25)).toNat = i) (i6 : tk_st N x2 Ma M101 (i + 1))
          refine And.intro ?_ ?_
          · intro (c7 : 1 = 0)
            exfalso
            omega
          · intro (c7 : ¬ 1 = 0)
            refine And.intro ?_ ?_
            · intro (c8 : ¬ i = x3)
              show Q 18 [(4, (0, 0, 1, 200001, i + 1)), (3, (0, 0, (-2147483648), 2147483647, x3)), (2, (0, 0, (-2147483648), 2147483647, x2)), (1, (0, 0, (-2147483648), 2147483647, x1)), (0, (2, 0, 0, 0, 0))] [] M101
              refine hgo.2.1 18 _ [(4, (0, 0, 0, 200000, i + 1)), (3, (0, 0, (-2147483648), 2147483647, x3)), (2, (0, 0, (-2147483648), 2147483647, x2)), (1, (0, 0, (-2147483648), 2147483647, x1)), (0, (2, 0, 0, 0, 0))] _ _ (xa_subI rfl rfl (fun _ _ _ _ => by omega) (xa_subI rfl rfl (fun _ _ _ _ => by omega) (xa_subI rfl rfl (fun _ _ _ _ => by omega) (xa_subI rfl rfl (fun _ _ _ _ => by omega) (xa_subR rfl (xa_sub0)))))) ?_
              exact ih (i + 1) M101 (by omega) i2 i6 (by omega) (by omega)
            · intro (c8 : i = x3)
              show xa_C (xl_I _) A h0 _ 100 [(2, 15, 0, 0, 0), (2, 1, 0, 0, 0)] M101 _
              refine cx_100t (tk_c1 hT hZ i2) (tk_c2 hT hZ i2) (tk_c3 hT hZ i2) ?_
              intro M102 (i9 : ∀ (q : Nat) (j : Int), ¬ q = 4 → M102 q j = M101 q j) (i10 : ∀ j : Int, 0 ≤ j → j < M101 15 10 → M102 4 (M101 21 j) = M101 25 j) (i11 : ∀ w : Int, (∀ j : Int, 0 ≤ j → j < M101 15 10 → ¬ M101 21 j = w) → M102 4 w = M101 4 w)
              show post (some (0, 0, 1, 1, 1)) M102
              exact k _ _ 1 _ (tk_fit1 (C := M) hS hx3 hC4 i2 i3 i4 (i5.trans c8) i10 i11) (fun q j h1 h2 => (i9 q j h1).trans (hfr _ i2 q j h1 h2))
        · intro M101 (i12 : fa_K Ma M101) (i13 : fs_c (tk_F N (Ma 15 10) (Ma 21) (Ma 22) x2) (tk_pr N (Ma 15 10) (Ma 21)).toNat = i)
          refine And.intro ?_ ?_
          · intro (c14 : 0 = 0)
            show post (some (0, 0, 0, 0, 0)) M101
            exact k _ _ 0 _ (tk_fit0 hS hx3 hC4 i12 i13 (by omega)) (fun q j h1 h2 => hfr _ i12 q j h1 h2)
          · intro (c14 : ¬ 0 = 0)
            exfalso
            omega
  refine hgo.1 14 [18] 0 _ _ _ ?_
  refine And.intro ?_ ?_
  · intro (c1 : x3 < 0)
    show post (some (0, 0, 0, 0, 0)) M
    exact k _ _ 0 M (Or.inl ⟨by omega, rfl, hC0⟩) (fun _ _ _ _ => rfl)
  · intro (c1 : 0 ≤ x3)
    show xa_C (xl_I _) A h0 _ 86 [(2, 0, 0, 0, 0), (0, 0, (-2147483648), 2147483647, x1), (0, 0, (-2147483648), 2147483647, x2)] M _
    refine cx_86_50 hT hR hB hFF ?_
    intro r104 M103 (i2 : tk_S N x1 x2 r104 (M103 15 10) (M103 21) (M103 22)) (i3 : r104 = 0 → tk_A N x2 M103) (i4 : ∀ q j, ¬ (15 ≤ q ∧ q ≤ 24) → M103 q j = M q j)
    refine And.intro ?_ ?_
    · intro (c5 : r104 = 0)
      show Q 18 [(4, (0, 0, 0, 0, 0)), (0, (2, 0, 0, 0, 0)), (1, (0, 0, (-2147483648), 2147483647, x1)), (2, (0, 0, (-2147483648), 2147483647, x2)), (3, (0, 0, (-2147483648), 2147483647, x3))] [] M103
      have er : r104 = 0 := by omega
      rw [er] at i2
      obtain ⟨z1, -, z3, z4⟩ := tk_S_L i2
      have hA := i3 er
      refine hgo.2.1 18 _ [(4, (0, 0, 0, 200000, 0)), (3, (0, 0, (-2147483648), 2147483647, x3)), (2, (0, 0, (-2147483648), 2147483647, x2)), (1, (0, 0, (-2147483648), 2147483647, x1)), (0, (2, 0, 0, 0, 0))] _ _ (xa_subI rfl rfl (fun _ _ _ _ => by omega) (xa_subI rfl rfl (fun _ _ _ _ => by omega) (xa_subI rfl rfl (fun _ _ _ _ => by omega) (xa_subI rfl rfl (fun _ _ _ _ => by omega) (xa_subR rfl (xa_sub0)))))) ?_
      exact loop M103 i2 (by omega) ⟨z1, z3, z4, hA⟩ (fun w w0 w1 => (i4 4 w (by omega)).trans (hC0 w w0 w1)) (fun M1 hK q j h1 h2 => (hK q j (by omega) (by omega) (by omega) (by omega)).trans (i4 q j (by omega))) 200001 0 M103 (by omega) fa_Kr (tk_st0 hA) (by omega) (by omega)
    · intro (c5 : ¬ r104 = 0)
      show post (some (0, 0, 0, 0, 0)) M103
      exact k _ _ 0 _ (Or.inr ⟨by omega, _, _, _, _, i2, Or.inl ⟨fun h => by omega, rfl, fun w w0 w1 => (i4 4 w (by omega)).trans (hC0 w w0 w1)⟩⟩) (fun q j h1 h2 => i4 q j (by omega))
theorem cx_99_55 {A : Nat → Nat} {h0 : g_H} {d : Nat} {M : xa_M} {post : Option xa_V → xa_M → Prop} {l1 u1 l2 u2 l3 u3 x1 x2 x3 : Int} {F : Int → Int} {N : xa_M} (hT : tk_M N) (hR : tk_R M N) (hB : tk_B 55 M N) (hFF : 1 ≤ x1 ∧ x1 ≤ 9 → tk_Y N x1 F) (hC0 : ∀ w : Int, 0 ≤ w → w < 14 → M 4 w = N 63 w) (k : ∀ (lo hi r : Int) (M1 : xa_M), tk_T N x1 x2 x3 r (M1 4) → (∀ q j, ¬ q = 4 → ¬ (15 ≤ q ∧ q ≤ 27) → M1 q j = M q j) → post (some (0, 0, lo, hi, r)) M1) : xa_C (xl_I true) A h0 (d + 7) 99 [(2, 0, 0, 0, 0), (0, 0, l1, u1, x1), (0, 0, l2, u2, x2), (0, 0, l3, u3, x3)] M post := by
  refine xa_C_arg [(2, 0, 0, 0, 0), (0, 0, (-2147483648), 2147483647, x1), (0, 0, (-2147483648), 2147483647, x2), (0, 0, (-2147483648), 2147483647, x3)] (xa_svR (xa_svI (fun _ _ _ _ => by omega) (xa_svI (fun _ _ _ _ => by omega) (xa_svI (fun _ _ _ _ => by omega) xa_sv0)))) ?_
  refine xa_meth (Q0 := (5, 2, false, 0, 0, 11)) (by decide +kernel) ⟨rfl, rfl⟩ (full := s_c_99) rfl rfl ?_
  intro hM hv Q hgo
  have loop : ∀ (Ma : xa_M), tk_S N x1 x2 0 (Ma 15 10) (Ma 21) (Ma 22) → 0 ≤ x3 → tk_Z N x1 x2 Ma → (∀ w : Int, 0 ≤ w → w < 14 → Ma 4 w = N 63 w) → (∀ M1 : xa_M, fa_K Ma M1 → ∀ (q : Nat) (j : Int), ¬ q = 4 → ¬ (15 ≤ q ∧ q ≤ 27) → M1 q j = M q j) → ∀ (f : Nat) (i : Int) (M1 : xa_M), 0 ≤ i ∧ i ≤ 200000 → fa_K Ma M1 → tk_st N x2 Ma M1 i → i ≤ x3 → 200000 - i < (f : Int) → Q 18 [(4, (0, 0, 0, 200000, i)), (3, (0, 0, (-2147483648), 2147483647, x3)), (2, (0, 0, (-2147483648), 2147483647, x2)), (1, (0, 0, (-2147483648), 2147483647, x1)), (0, (2, 0, 0, 0, 0))] [] M1 := by
    intro Ma hS hx3 hZ hC4 hfr f
    induction f with
    | zero => intro i M1 i1 hK hst hle hms; omega
    | succ f ih =>
      intro i M1 i1 hK hst hle hms
      refine hgo.1 21 [18] 18 _ _ _ ?_
      refine And.intro ?_ ?_
      · intro (c1 : 200000 ≤ i)
        show post (some (0, 0, 0, 0, 0)) M1
        exact k _ _ 0 M1 (tk_fit0 hS hx3 hC4 hK rfl (Int.le_trans (tk_all hT hZ hst (by omega)) (by omega))) (fun q j h1 h2 => hfr M1 hK q j h1 h2)
      · intro (c1 : i < 200000)
        show xa_C (xl_I _) A h0 _ 91 [(2, 15, 0, 0, 0)] M1 _
        refine cx_91t hT hZ hK hst ?_ ?_
        · intro M101 (i2 : fa_K Ma M101) (i3 : tk_in N (Ma 15 10) (Ma 21) (M101 25)) (i4 : tk_F N (Ma 15 10) (Ma 21) (Ma 22) x2 (tk_rk N (Ma 15 10) (Ma 21) (M101 25))) (i5 : fs_c (tk_F N (Ma 15 10) (Ma 21) (Ma 22) x2) (tk_rk N (Ma 15 10) (Ma 21) (M101 25)).toNat = i) (i6 : tk_st N x2 Ma M101 (i + 1))
          refine And.intro ?_ ?_
          · intro (c7 : 1 = 0)
            exfalso
            omega
          · intro (c7 : ¬ 1 = 0)
            refine And.intro ?_ ?_
            · intro (c8 : ¬ i = x3)
              show Q 18 [(4, (0, 0, 1, 200001, i + 1)), (3, (0, 0, (-2147483648), 2147483647, x3)), (2, (0, 0, (-2147483648), 2147483647, x2)), (1, (0, 0, (-2147483648), 2147483647, x1)), (0, (2, 0, 0, 0, 0))] [] M101
              refine hgo.2.1 18 _ [(4, (0, 0, 0, 200000, i + 1)), (3, (0, 0, (-2147483648), 2147483647, x3)), (2, (0, 0, (-2147483648), 2147483647, x2)), (1, (0, 0, (-2147483648), 2147483647, x1)), (0, (2, 0, 0, 0, 0))] _ _ (xa_subI rfl rfl (fun _ _ _ _ => by omega) (xa_subI rfl rfl (fun _ _ _ _ => by omega) (xa_subI rfl rfl (fun _ _ _ _ => by omega) (xa_subI rfl rfl (fun _ _ _ _ => by omega) (xa_subR rfl (xa_sub0)))))) ?_
              exact ih (i + 1) M101 (by omega) i2 i6 (by omega) (by omega)
            · intro (c8 : i = x3)
              show xa_C (xl_I _) A h0 _ 100 [(2, 15, 0, 0, 0), (2, 1, 0, 0, 0)] M101 _
              refine cx_100t (tk_c1 hT hZ i2) (tk_c2 hT hZ i2) (tk_c3 hT hZ i2) ?_
              intro M102 (i9 : ∀ (q : Nat) (j : Int), ¬ q = 4 → M102 q j = M101 q j) (i10 : ∀ j : Int, 0 ≤ j → j < M101 15 10 → M102 4 (M101 21 j) = M101 25 j) (i11 : ∀ w : Int, (∀ j : Int, 0 ≤ j → j < M101 15 10 → ¬ M101 21 j = w) → M102 4 w = M101 4 w)
              show post (some (0, 0, 1, 1, 1)) M102
              exact k _ _ 1 _ (tk_fit1 (C := M) hS hx3 hC4 i2 i3 i4 (i5.trans c8) i10 i11) (fun q j h1 h2 => (i9 q j h1).trans (hfr _ i2 q j h1 h2))
        · intro M101 (i12 : fa_K Ma M101) (i13 : fs_c (tk_F N (Ma 15 10) (Ma 21) (Ma 22) x2) (tk_pr N (Ma 15 10) (Ma 21)).toNat = i)
          refine And.intro ?_ ?_
          · intro (c14 : 0 = 0)
            show post (some (0, 0, 0, 0, 0)) M101
            exact k _ _ 0 _ (tk_fit0 hS hx3 hC4 i12 i13 (by omega)) (fun q j h1 h2 => hfr _ i12 q j h1 h2)
          · intro (c14 : ¬ 0 = 0)
            exfalso
            omega
  refine hgo.1 14 [18] 0 _ _ _ ?_
  refine And.intro ?_ ?_
  · intro (c1 : x3 < 0)
    show post (some (0, 0, 0, 0, 0)) M
    exact k _ _ 0 M (Or.inl ⟨by omega, rfl, hC0⟩) (fun _ _ _ _ => rfl)
  · intro (c1 : 0 ≤ x3)
    show xa_C (xl_I _) A h0 _ 86 [(2, 0, 0, 0, 0), (0, 0, (-2147483648), 2147483647, x1), (0, 0, (-2147483648), 2147483647, x2)] M _
    refine cx_86_55 hT hR hB hFF ?_
    intro r104 M103 (i2 : tk_S N x1 x2 r104 (M103 15 10) (M103 21) (M103 22)) (i3 : r104 = 0 → tk_A N x2 M103) (i4 : ∀ q j, ¬ (15 ≤ q ∧ q ≤ 24) → M103 q j = M q j)
    refine And.intro ?_ ?_
    · intro (c5 : r104 = 0)
      show Q 18 [(4, (0, 0, 0, 0, 0)), (0, (2, 0, 0, 0, 0)), (1, (0, 0, (-2147483648), 2147483647, x1)), (2, (0, 0, (-2147483648), 2147483647, x2)), (3, (0, 0, (-2147483648), 2147483647, x3))] [] M103
      have er : r104 = 0 := by omega
      rw [er] at i2
      obtain ⟨z1, -, z3, z4⟩ := tk_S_L i2
      have hA := i3 er
      refine hgo.2.1 18 _ [(4, (0, 0, 0, 200000, 0)), (3, (0, 0, (-2147483648), 2147483647, x3)), (2, (0, 0, (-2147483648), 2147483647, x2)), (1, (0, 0, (-2147483648), 2147483647, x1)), (0, (2, 0, 0, 0, 0))] _ _ (xa_subI rfl rfl (fun _ _ _ _ => by omega) (xa_subI rfl rfl (fun _ _ _ _ => by omega) (xa_subI rfl rfl (fun _ _ _ _ => by omega) (xa_subI rfl rfl (fun _ _ _ _ => by omega) (xa_subR rfl (xa_sub0)))))) ?_
      exact loop M103 i2 (by omega) ⟨z1, z3, z4, hA⟩ (fun w w0 w1 => (i4 4 w (by omega)).trans (hC0 w w0 w1)) (fun M1 hK q j h1 h2 => (hK q j (by omega) (by omega) (by omega) (by omega)).trans (i4 q j (by omega))) 200001 0 M103 (by omega) fa_Kr (tk_st0 hA) (by omega) (by omega)
    · intro (c5 : ¬ r104 = 0)
      show post (some (0, 0, 0, 0, 0)) M103
      exact k _ _ 0 _ (Or.inr ⟨by omega, _, _, _, _, i2, Or.inl ⟨fun h => by omega, rfl, fun w w0 w1 => (i4 4 w (by omega)).trans (hC0 w w0 w1)⟩⟩) (fun q j h1 h2 => i4 q j (by omega))
-- sheet, what it leaves
set_option maxRecDepth 20000
def sv_c (l m v : Int) : Int := if m ≤ v then (if m ≤ l then l else m) else (if v ≤ l then l else v)
theorem sv_cr {l m v q r : Int} (hq : q ≤ m ∧ q ≤ v ∧ (q = m ∨ q = v)) (hr : l ≤ r ∧ q ≤ r ∧ (r = l ∨ r = q)) : r = sv_c l m v := by
  unfold sv_c
  split <;> split <;> omega
/-- an entry -/
def sv_k (a v : Int) : Int := if a = 0 then xa_i8 v else if a = 1 then xa_i16 v else v
def sv_f (f st i : Int) : Int := xa_w32 (f + i * st)
theorem sv_f0 {f st : Int} (h1 : -2147483648 ≤ f) (h2 : f ≤ 2147483647) : sv_f f st 0 = f := by
  unfold sv_f
  rw [Int.zero_mul, Int.add_zero]
  exact xa_w32_id h1 h2
theorem sv_fs {f st i : Int} : xa_w32 (sv_f f st i + st) = sv_f f st (i + 1) := by
  unfold sv_f xa_w32
  rw [Int.bmod_add_bmod, Int.add_mul, Int.one_mul, Int.add_assoc]
theorem sv_fm {f st i : Int} : xa_w32 (f + xa_w32 (i * st)) = sv_f f st i := by
  unfold sv_f xa_w32
  exact Int.add_bmod_bmod
def sv_ok (a b : Int) : Prop := (0 ≤ a ∧ a ≤ 3) ∧ b ≤ 14 ∧ (a = 3 ∨ 0 ≤ b)
/-- the teeth that sheet tells of a wheel -/
def sv_T (L H : Int → Int) (a f st i : Int) : Int := if a = 3 then L i else sv_c (L i) (H i) (sv_k a (sv_f f st i))
theorem sv_p3 {L H : Int → Int} {a f st i x : Int} (ha : a = 3) (h : x = L i) : x = sv_T L H a f st i := by
  unfold sv_T
  rw [if_pos ha]
  exact h
theorem sv_pc {L H : Int → Int} {a f st i v kv q r : Int} (ha : ¬ a = 3) (hv : v = sv_f f st i) (hk : kv = sv_k a v) (hq : q ≤ H i ∧ q ≤ kv ∧ (q = H i ∨ q = kv)) (hr : L i ≤ r ∧ q ≤ r ∧ (r = L i ∨ r = q)) : r = sv_T L H a f st i := by
  unfold sv_T
  rw [if_neg ha, ← hv, ← hk]
  exact sv_cr hq hr
/-- what sheet leaves -/
def sv_Q (L H T : Int → Int) (a b f st n : Int) (U : Int → Int) : Prop := (sv_ok a b ∧ (∀ i, 0 ≤ i → i < n → (a = 3 ∨ i < b) → U i = sv_T L H a f st i) ∧ ∀ i, ¬ (0 ≤ i ∧ i < n ∧ (a = 3 ∨ i < b)) → U i = T i) ∨ (¬ sv_ok a b ∧ ∀ i, U i = T i)
theorem sv_one {L H T L' H' T' U U' : Int → Int} {a b f st n : Int} (hn : n ≤ 14) (h : sv_Q L H T a b f st n U) (h' : sv_Q L' H' T' a b f st n U') (e : ∀ i, 0 ≤ i → i < 14 → L i = L' i ∧ H i = H' i ∧ T i = T' i) : ∀ i, 0 ≤ i → i < 14 → U i = U' i := by
  intro i i0 i1
  obtain ⟨e1, e2, e3⟩ := e i i0 i1
  rcases h with ⟨o1, p1, q1⟩ | ⟨o1, p1⟩
  · rcases h' with ⟨-, p2, q2⟩ | ⟨o2, -⟩
    · by_cases c : i < n ∧ (a = 3 ∨ i < b)
      · rw [p1 i i0 c.1 c.2, p2 i i0 c.1 c.2]
        unfold sv_T
        rw [e1, e2]
      · rw [q1 i (fun h => c h.2), q2 i (fun h => c h.2), e3]
    · exact absurd o1 o2
  · rcases h' with ⟨o2, -⟩ | ⟨-, p2⟩
    · exact absurd o2 o1
    · rw [p1, p2, e3]
theorem sv_ts {L H : Int → Int} {M1 : xa_M} {q : Nat} {a f st w x : Int} (hT : ∀ j, 0 ≤ j → j < w → M1 q j = sv_T L H a f st j) (hx : x = sv_T L H a f st w) : ∀ j, 0 ≤ j → j < w + 1 → (xa_up M1 q w x) q j = sv_T L H a f st j := fun j j0 j1 => by
  by_cases e : j = w
  · rw [e, ← hx]
    exact xa_up_eq
  · exact (xa_up_ne (fun h => e h.2)).trans (hT j j0 (by omega))
theorem sv_tn {T : Int → Int} {M1 : xa_M} {q : Nat} {w x : Int} (hw : 0 ≤ w) (hN : ∀ j, ¬ (0 ≤ j ∧ j < w) → M1 q j = T j) : ∀ j, ¬ (0 ≤ j ∧ j < w + 1) → (xa_up M1 q w x) q j = T j := fun j hj => (xa_up_ne (fun h => hj (by omega))).trans (hN j (by omega))
theorem cx_33s {b : Bool} {A : Nat → Nat} {h0 : g_H} {d : Nat} {M : xa_M} {post : Option xa_V → xa_M → Prop} {l1 u1 l2 u2 x1 x2 : Int} (k : ∀ r : Int, r = sv_k x1 x2 → post (some (0, 0, (-2147483648), 2147483647, r)) M) : xa_C (xl_I b) A h0 (d + 1) 33 [(0, 0, l1, u1, x1), (0, 0, l2, u2, x2)] M post := by
  refine xa_C_wk ?_
  refine xa_C_arg [(0, 0, (-2147483648), 2147483647, x1), (0, 0, (-2147483648), 2147483647, x2)] (xa_svI (fun _ _ _ _ => by omega) (xa_svI (fun _ _ _ _ => by omega) xa_sv0)) ?_
  refine xa_meth (Q0 := (2, 1, false, 0, 0, 11)) (by decide +kernel) ⟨rfl, rfl⟩ (full := s_c_33) rfl rfl ?_
  intro hM hv Q hgo
  refine hgo.1 13 [] 0 _ _ _ ?_
  refine And.intro ?_ ?_
  · intro (c1 : ¬ x1 = 0)
    refine And.intro ?_ ?_
    · intro (c2 : ¬ x1 = 1)
      show xa_wk post (some (0, 0, (-2147483648), 2147483647, x2)) M
      exact xa_wkI _ rfl (fun _ _ => by omega) (k _ (by unfold sv_k; rw [if_neg (by omega), if_neg (by omega)]))
    · intro (c2 : x1 = 1)
      show xa_wk post (some (0, 0, (-32768), 32767, xa_i16 x2)) M
      exact xa_wkI _ rfl (fun _ _ => by omega) (k _ (by unfold sv_k; rw [if_neg (by omega), if_pos (by omega)]))
  · intro (c1 : x1 = 0)
    show xa_wk post (some (0, 0, (-128), 127, xa_i8 x2)) M
    exact xa_wkI _ rfl (fun _ _ => by omega) (k _ (by unfold sv_k; rw [if_pos (by omega)]))
theorem cx_32 {b : Bool} {A : Nat → Nat} {h0 : g_H} {d : Nat} {M : xa_M} {post : Option xa_V → xa_M → Prop} {l0 u0 l1 u1 : Int} {x1 x2 : Int} (k1 : (x2 < x1) → post (some (0, 0, (-2147483648), 2147483647, x2)) M) (k2 : (x1 ≤ x2) → post (some (0, 0, (-2147483648), 2147483647, x1)) M) : xa_C (xl_I b) A h0 (d + 1) 32 [(0, 0, l0, u0, x1), (0, 0, l1, u1, x2)] M post := by
  refine xa_C_arg [(0, 0, (-2147483648), 2147483647, x1), (0, 0, (-2147483648), 2147483647, x2)] (xa_svI (fun _ _ _ _ => by omega) (xa_svI (fun _ _ _ _ => by omega) (xa_sv0))) ?_
  refine xa_meth (Q0 := (2, 1, false, 0, 0, 14)) (by decide +kernel) ⟨rfl, rfl⟩ (full := s_c_32) rfl rfl ?_
  intro hM hv Q hgo
  refine hgo.1 10 [] 0 _ _ _ ?_
  refine And.intro ?_ ?_
  · intro (c1 : x2 < x1)
    show post (some (0, 0, (-2147483648), 2147483647, x2)) M
    exact k1 c1
  · intro (c1 : x1 ≤ x2)
    show post (some (0, 0, (-2147483648), 2147483647, x1)) M
    exact k2 c1
theorem cx_35 {b : Bool} {A : Nat → Nat} {h0 : g_H} {d : Nat} {M : xa_M} {post : Option xa_V → xa_M → Prop} {l0 u0 l1 u1 : Int} {x1 x2 : Int} (k1 : (x1 < x2) → post (some (0, 0, (-2147483648), 2147483647, x2)) M) (k2 : (x2 ≤ x1) → post (some (0, 0, (-2147483648), 2147483647, x1)) M) : xa_C (xl_I b) A h0 (d + 1) 35 [(0, 0, l0, u0, x1), (0, 0, l1, u1, x2)] M post := by
  refine xa_C_arg [(0, 0, (-2147483648), 2147483647, x1), (0, 0, (-2147483648), 2147483647, x2)] (xa_svI (fun _ _ _ _ => by omega) (xa_svI (fun _ _ _ _ => by omega) (xa_sv0))) ?_
  refine xa_meth (Q0 := (2, 1, false, 0, 0, 14)) (by decide +kernel) ⟨rfl, rfl⟩ (full := s_c_35) rfl rfl ?_
  intro hM hv Q hgo
  refine hgo.1 10 [] 0 _ _ _ ?_
  refine And.intro ?_ ?_
  · intro (c1 : x1 < x2)
    show post (some (0, 0, (-2147483648), 2147483647, x2)) M
    exact k1 c1
  · intro (c1 : x2 ≤ x1)
    show post (some (0, 0, (-2147483648), 2147483647, x1)) M
    exact k2 c1
theorem cx_34_1 {b : Bool} {A : Nat → Nat} {h0 : g_H} {d : Nat} {M : xa_M} {post : Option xa_V → xa_M → Prop} {l1 u1 l2 u2 : Int} {x1 x2 : Int} (h1 : 0 ≤ x1 ∧ x1 < 14) (k1 : (x2 < (M 3 x1)) → ((M 2 x1) < x2) → post none (xa_up M 4 x1 x2)) (k2 : (x2 < (M 3 x1)) → (x2 ≤ (M 2 x1)) → post none (xa_up M 4 x1 (M 2 x1))) (k3 : ((M 3 x1) ≤ x2) → ((M 2 x1) < (M 3 x1)) → post none (xa_up M 4 x1 (M 3 x1))) (k4 : ((M 3 x1) ≤ x2) → ((M 3 x1) ≤ (M 2 x1)) → post none (xa_up M 4 x1 (M 2 x1))) : xa_C (xl_I b) A h0 (d + 3) 34 [(2, 1, 0, 0, 0), (0, 0, l1, u1, x1), (0, 0, l2, u2, x2)] M post := by
  refine xa_C_arg [(2, 1, 0, 0, 0), (0, 0, (-2147483648), 2147483647, x1), (0, 0, (-2147483648), 2147483647, x2)] (xa_svR (xa_svI (fun _ _ _ _ => by omega) (xa_svI (fun _ _ _ _ => by omega) (xa_sv0)))) ?_
  refine xa_meth (Q0 := (3, 0, false, 0, 0, 1)) (by decide +kernel) ⟨rfl, rfl⟩ (full := s_c_34) rfl rfl ?_
  intro hM hv Q hgo
  refine hgo.1 18 [] 0 _ _ _ ?_
  show xa_C (xl_I b) A h0 _ 22 [(2, 1, 0, 0, 0), (0, 0, (-2147483648), 2147483647, x1)] M _
  refine cx_22_1 (show 0 ≤ x1 ∧ x1 < 14 by omega) ?_
  show xa_C (xl_I b) A h0 _ 25 [(2, 1, 0, 0, 0), (0, 0, (-2147483648), 2147483647, x1)] M _
  refine cx_25_1 (show 0 ≤ x1 ∧ x1 < 14 by omega) ?_
  show xa_C (xl_I b) A h0 _ 32 [(0, 0, 0, 400, M 3 x1), (0, 0, (-2147483648), 2147483647, x2)] M _
  refine cx_32 ?_ ?_
  · intro (i1 : x2 < (M 3 x1))
    show xa_C (xl_I b) A h0 _ 35 [(0, 0, (-2147483648), 2147483647, M 2 x1), (0, 0, (-2147483648), 2147483647, x2)] M _
    refine cx_35 ?_ ?_
    · intro (i2 : (M 2 x1) < x2)
      show xa_C (xl_I b) A h0 _ 18 [(2, 4, 0, 0, 0), (0, 0, (-2147483648), 2147483647, x1), (0, 0, (-2147483648), 2147483647, x2)] M _
      refine cx_18_4 (show 0 ≤ x1 ∧ x1 < 14 by omega) ?_
      show post none (xa_up M 4 x1 x2)
      exact k1 i1 i2
    · intro (i3 : x2 ≤ (M 2 x1))
      show xa_C (xl_I b) A h0 _ 18 [(2, 4, 0, 0, 0), (0, 0, (-2147483648), 2147483647, x1), (0, 0, (-2147483648), 2147483647, M 2 x1)] M _
      refine cx_18_4 (show 0 ≤ x1 ∧ x1 < 14 by omega) ?_
      show post none (xa_up M 4 x1 (M 2 x1))
      exact k2 i1 i3
  · intro (i4 : (M 3 x1) ≤ x2)
    show xa_C (xl_I b) A h0 _ 35 [(0, 0, (-2147483648), 2147483647, M 2 x1), (0, 0, (-2147483648), 2147483647, M 3 x1)] M _
    refine cx_35 ?_ ?_
    · intro (i5 : (M 2 x1) < (M 3 x1))
      show xa_C (xl_I b) A h0 _ 18 [(2, 4, 0, 0, 0), (0, 0, (-2147483648), 2147483647, x1), (0, 0, (-2147483648), 2147483647, M 3 x1)] M _
      refine cx_18_4 (show 0 ≤ x1 ∧ x1 < 14 by omega) ?_
      show post none (xa_up M 4 x1 (M 3 x1))
      exact k3 i4 i5
    · intro (i6 : (M 3 x1) ≤ (M 2 x1))
      show xa_C (xl_I b) A h0 _ 18 [(2, 4, 0, 0, 0), (0, 0, (-2147483648), 2147483647, x1), (0, 0, (-2147483648), 2147483647, M 2 x1)] M _
      refine cx_18_4 (show 0 ≤ x1 ∧ x1 < 14 by omega) ?_
      show post none (xa_up M 4 x1 (M 2 x1))
      exact k4 i4 i6
theorem cx_34s {b : Bool} {A : Nat → Nat} {h0 : g_H} {d : Nat} {M : xa_M} {post : Option xa_V → xa_M → Prop} {l1 u1 l2 u2 x1 x2 : Int} (h : 0 ≤ x1 ∧ x1 < 14) (k : post none (xa_up M 4 x1 (sv_c (M 2 x1) (M 3 x1) x2))) : xa_C (xl_I b) A h0 (d + 3) 34 [(2, 1, 0, 0, 0), (0, 0, l1, u1, x1), (0, 0, l2, u2, x2)] M post := cx_34_1 h (fun (_ : x2 < (M 3 x1)) (_ : (M 2 x1) < x2) => by rw [show x2 = sv_c (M 2 x1) (M 3 x1) x2 by unfold sv_c; split <;> first | omega | (split <;> omega)]; exact k) (fun (_ : x2 < (M 3 x1)) (_ : x2 ≤ (M 2 x1)) => by rw [show (M 2 x1) = sv_c (M 2 x1) (M 3 x1) x2 by unfold sv_c; split <;> first | omega | (split <;> omega)]; exact k) (fun (_ : (M 3 x1) ≤ x2) (_ : (M 2 x1) < (M 3 x1)) => by rw [show (M 3 x1) = sv_c (M 2 x1) (M 3 x1) x2 by unfold sv_c; split <;> first | omega | (split <;> omega)]; exact k) (fun (_ : (M 3 x1) ≤ x2) (_ : (M 3 x1) ≤ (M 2 x1)) => by rw [show (M 2 x1) = sv_c (M 2 x1) (M 3 x1) x2 by unfold sv_c; split <;> first | omega | (split <;> omega)]; exact k)
theorem cx_31s {b : Bool} {A : Nat → Nat} {h0 : g_H} {d : Nat} {M : xa_M} {post : Option xa_V → xa_M → Prop} (hn : 0 ≤ M 1 9 ∧ M 1 9 ≤ 14) (k : ∀ M1 : xa_M, (∀ (q : Nat) (j : Int), ¬ q = 4 → M1 q j = M q j) → (∀ j : Int, 0 ≤ j → j < M 1 9 → M1 4 j = M 2 j) → (∀ j : Int, ¬ (0 ≤ j ∧ j < M 1 9) → M1 4 j = M 4 j) → post none M1) : xa_C (xl_I b) A h0 (d + 3) 31 [(2, 1, 0, 0, 0)] M post := by
  refine xa_C_arg [(2, 1, 0, 0, 0)] (xa_svR xa_sv0) ?_
  refine xa_meth (Q0 := (2, 0, false, 0, 0, 1)) (by decide +kernel) ⟨rfl, rfl⟩ (full := s_c_31) rfl rfl ?_
  intro hM hv Q hgo
  have loop : ∀ (n : Nat) (i : Int) (M1 : xa_M), 0 ≤ i ∧ i ≤ M 1 9 → (∀ (q : Nat) (j : Int), ¬ q = 4 → M1 q j = M q j) → (∀ j : Int, 0 ≤ j → j < i → M1 4 j = sv_T (M 2) (M 3) 3 0 0 j) → (∀ j : Int, ¬ (0 ≤ j ∧ j < i) → M1 4 j = M 4 j) → 14 - i < (n : Int) → Q 2 [(1, (0, 0, 0, 14, i)), (0, (2, 1, 0, 0, 0))] [] M1 := by
    intro n
    induction n with
    | zero => intro i M1 h1 hk hT hN hms; omega
    | succ n ih =>
      intro i M1 h1 hk hT hN hms
      have e9 := hk 1 9 (by decide)
      refine hgo.1 18 [2] 2 _ _ _ ?_
      refine And.intro ?_ ?_
      · intro (c1 : (M1 1 9) ≤ i)
        show post none M1
        exact k _ hk (fun j j0 j1 => (hT j j0 (by omega)).trans (sv_p3 rfl rfl).symm) (fun j hj => hN j (by omega))
      · intro (c1 : i < (M1 1 9))
        show xa_C (xl_I b) A h0 _ 22 [(2, 1, 0, 0, 0), (0, 0, 0, 14, i)] M1 _
        refine cx_22_1 (show 0 ≤ i ∧ i < 14 by omega) ?_
        show xa_C (xl_I b) A h0 _ 18 [(2, 4, 0, 0, 0), (0, 0, 0, 14, i), (0, 0, (-2147483648), 2147483647, M1 2 i)] M1 _
        refine cx_18_4 (show 0 ≤ i ∧ i < 14 by omega) ?_
        show Q 2 [(1, (0, 0, 1, 15, i + 1)), (0, (2, 1, 0, 0, 0))] [] (xa_up M1 4 i (M1 2 i))
        refine hgo.2.1 2 _ [(1, (0, 0, 0, 14, i + 1)), (0, (2, 1, 0, 0, 0))] _ _ (xa_subI rfl rfl (fun _ _ _ _ => by omega) (xa_subR rfl (xa_sub0))) ?_
        exact ih (i + 1) (xa_up M1 4 i (M1 2 i)) (by omega) (fun q j hq => (xa_up_ne (fun e => hq e.1)).trans (hk q j hq)) (sv_ts (L := M 2) (H := M 3) (a := 3) (f := 0) (st := 0) hT (sv_p3 rfl (hk 2 i (by decide)))) (sv_tn (by omega) hN) (by omega)
  refine hgo.1 7 [2] 0 _ _ _ ?_
  show Q 2 [(1, (0, 0, 0, 0, 0)), (0, (2, 1, 0, 0, 0))] [] M
  refine hgo.2.1 2 _ [(1, (0, 0, 0, 14, 0)), (0, (2, 1, 0, 0, 0))] _ _ (xa_subI rfl rfl (fun _ _ _ _ => by omega) (xa_subR rfl (xa_sub0))) ?_
  exact loop 15 0 M (by omega) (fun _ _ _ => rfl) (fun j j0 j1 => by omega) (fun _ _ => rfl) (by omega)
theorem cw_30s {b : Bool} {A : Nat → Nat} {h0 : g_H} {d : Nat} {M : xa_M} {post : Option xa_V → xa_M → Prop} {l1 u1 l2 u2 l3 u3 l4 u4 x1 x2 x3 x4 : Int} (hn : 0 ≤ M 1 9 ∧ M 1 9 ≤ 14) (k : ∀ (lo n hi : Int) (M1 : xa_M), (∀ (q : Nat) (j : Int), ¬ q = 4 → M1 q j = M q j) → sv_Q (M 2) (M 3) (M 4) x1 x2 x3 x4 (M 1 9) (M1 4) → post (some (0, 0, lo, hi, n)) M1) : xa_C (xl_I b) A h0 (d + 4) 30 [(2, 0, 0, 0, 0), (0, 0, l1, u1, x1), (0, 0, l2, u2, x2), (0, 0, l3, u3, x3), (0, 0, l4, u4, x4)] M post := by
  refine xa_C_arg [(2, 0, 0, 0, 0), (0, 0, (-2147483648), 2147483647, x1), (0, 0, (-2147483648), 2147483647, x2), (0, 0, (-2147483648), 2147483647, x3), (0, 0, (-2147483648), 2147483647, x4)] (xa_svR (xa_svI (fun _ _ _ _ => by omega) (xa_svI (fun _ _ _ _ => by omega) (xa_svI (fun _ _ _ _ => by omega) (xa_svI (fun _ _ _ _ => by omega) (xa_sv0)))))) ?_
  refine xa_meth (Q0 := (7, 1, false, 0, 0, 11)) (by decide +kernel) ⟨rfl, rfl⟩ (full := s_c_30) rfl rfl ?_
  intro hM hv Q hgo
  have loop : ∀ (hd : Int), hd ≤ 14 → (∀ j : Int, 0 ≤ j → (j < hd ↔ j < M 1 9 ∧ j < x2)) → sv_ok x1 x2 → ¬ x1 = 3 → ∀ (n : Nat) (i : Int) (M1 : xa_M), 0 ≤ i ∧ i ≤ hd → (∀ (q : Nat) (j : Int), ¬ q = 4 → M1 q j = M q j) → (∀ j : Int, 0 ≤ j → j < i → M1 4 j = sv_T (M 2) (M 3) x1 x3 x4 j) → (∀ j : Int, ¬ (0 ≤ j ∧ j < i) → M1 4 j = M 4 j) → 14 - i < (n : Int) → Q 55 [(6, (0, 0, 0, 14, i)), (5, (0, 0, (-2147483648), 14, hd)), (4, (0, 0, (-2147483648), 2147483647, x4)), (3, (0, 0, (-2147483648), 2147483647, x3)), (1, (0, 0, (-2147483648), 2147483647, x1)), (0, (2, 0, 0, 0, 0))] [] M1 := by
    intro hd hhd hh hok ha n
    induction n with
    | zero => intro i M1 h1 hk hT hN hms; omega
    | succ n ih =>
      intro i M1 h1 hk hT hN hms
      refine hgo.1 21 [55] 55 _ _ _ ?_
      refine And.intro ?_ ?_
      · intro (c1 : hd ≤ i)
        show post (some (0, 0, (-2147483648), 14, hd)) M1
        exact k _ _ _ M1 hk (Or.inl ⟨hok, fun j j0 j1 j2 => hT j j0 (by have := hh j j0; omega), fun j hj => hN j (fun h => hj (by have := hh j h.1; omega))⟩)
      · intro (c1 : i < hd)
        show xa_C (xl_I b) A h0 _ 33 [(0, 0, (-2147483648), 2147483647, x1), (0, 0, (-2147483648), 2147483647, xa_w32 (x3 + (xa_w32 (i * x4))))] M1 _
        refine cx_33s ?_
        intro r101 (i2 : r101 = sv_k x1 (xa_w32 (x3 + (xa_w32 (i * x4)))))
        show xa_C (xl_I b) A h0 _ 34 [(2, 1, 0, 0, 0), (0, 0, 0, 14, i), (0, 0, (-2147483648), 2147483647, r101)] M1 _
        refine cx_34s (show 0 ≤ i ∧ i < 14 by omega) ?_
        show Q 55 [(6, (0, 0, 1, 15, i + 1)), (5, (0, 0, (-2147483648), 14, hd)), (4, (0, 0, (-2147483648), 2147483647, x4)), (3, (0, 0, (-2147483648), 2147483647, x3)), (1, (0, 0, (-2147483648), 2147483647, x1)), (0, (2, 0, 0, 0, 0))] [] (xa_up M1 4 i (sv_c (M1 2 i) (M1 3 i) r101))
        refine hgo.2.1 55 _ [(6, (0, 0, 0, 14, i + 1)), (5, (0, 0, (-2147483648), 14, hd)), (4, (0, 0, (-2147483648), 2147483647, x4)), (3, (0, 0, (-2147483648), 2147483647, x3)), (1, (0, 0, (-2147483648), 2147483647, x1)), (0, (2, 0, 0, 0, 0))] _ _ (xa_subI rfl rfl (fun _ _ _ _ => by omega) (xa_subI rfl rfl (fun _ _ _ _ => by omega) (xa_subI rfl rfl (fun _ _ _ _ => by omega) (xa_subI rfl rfl (fun _ _ _ _ => by omega) (xa_subI rfl rfl (fun _ _ _ _ => by omega) (xa_subR rfl (xa_sub0))))))) ?_
        exact ih (i + 1) (xa_up M1 4 i (sv_c (M1 2 i) (M1 3 i) r101)) (by omega) (fun q j hq => (xa_up_ne (fun e => hq e.1)).trans (hk q j hq)) (sv_ts hT (by
          unfold sv_T
          rw [if_neg ha, ← hk 2 i (by decide), ← hk 3 i (by decide), ← sv_fm, ← i2])) (sv_tn (by omega) hN) (by omega)
  refine hgo.1 26 [55] 0 _ _ _ ?_
  refine And.intro ?_ ?_
  · intro (c1 : x1 < 0)
    show post (some (0, 0, (-1), (-1), (-1))) M
    exact k _ _ _ _ (fun _ _ _ => rfl) (Or.inr ⟨by unfold sv_ok; omega, fun _ => rfl⟩)
  · intro (c1 : 0 ≤ x1)
    refine And.intro ?_ ?_
    · intro (c2 : 3 < x1)
      show post (some (0, 0, (-1), (-1), (-1))) M
      exact k _ _ _ _ (fun _ _ _ => rfl) (Or.inr ⟨by unfold sv_ok; omega, fun _ => rfl⟩)
    · intro (c2 : x1 ≤ 3)
      refine And.intro ?_ ?_
      · intro (c3 : x2 ≤ 14)
        refine And.intro ?_ ?_
        · intro (c4 : ¬ x1 = 3)
          refine And.intro ?_ ?_
          · intro (c5 : 0 ≤ x2)
            show xa_C (xl_I b) A h0 _ 32 [(0, 0, (-2147483648), 2147483647, x2), (0, 0, (-2147483648), 2147483647, M 1 9)] M _
            refine cx_32 ?_ ?_
            · intro (i6 : (M 1 9) < x2)
              show Q 55 [(6, (0, 0, 0, 0, 0)), (5, (0, 0, (-2147483648), 2147483647, M 1 9)), (0, (2, 0, 0, 0, 0)), (1, (0, 0, (-2147483648), 2147483647, x1)), (2, (0, 0, (-2147483648), 2147483647, x2)), (3, (0, 0, (-2147483648), 2147483647, x3)), (4, (0, 0, (-2147483648), 2147483647, x4))] [] M
              refine hgo.2.1 55 _ [(6, (0, 0, 0, 14, 0)), (5, (0, 0, (-2147483648), 14, M 1 9)), (4, (0, 0, (-2147483648), 2147483647, x4)), (3, (0, 0, (-2147483648), 2147483647, x3)), (1, (0, 0, (-2147483648), 2147483647, x1)), (0, (2, 0, 0, 0, 0))] _ _ (xa_subI rfl rfl (fun _ _ _ _ => by omega) (xa_subI rfl rfl (fun _ _ _ _ => by omega) (xa_subI rfl rfl (fun _ _ _ _ => by omega) (xa_subI rfl rfl (fun _ _ _ _ => by omega) (xa_subI rfl rfl (fun _ _ _ _ => by omega) (xa_subR rfl (xa_sub0))))))) ?_
              exact loop (M 1 9) (by omega) (fun j j0 => by omega) (by unfold sv_ok; omega) (by omega) 15 0 M (by omega) (fun _ _ _ => rfl) (fun j j0 j1 => by omega) (fun _ _ => rfl) (by omega)
            · intro (i7 : x2 ≤ (M 1 9))
              show Q 55 [(6, (0, 0, 0, 0, 0)), (5, (0, 0, (-2147483648), 2147483647, x2)), (0, (2, 0, 0, 0, 0)), (1, (0, 0, (-2147483648), 2147483647, x1)), (2, (0, 0, (-2147483648), 2147483647, x2)), (3, (0, 0, (-2147483648), 2147483647, x3)), (4, (0, 0, (-2147483648), 2147483647, x4))] [] M
              refine hgo.2.1 55 _ [(6, (0, 0, 0, 14, 0)), (5, (0, 0, (-2147483648), 14, x2)), (4, (0, 0, (-2147483648), 2147483647, x4)), (3, (0, 0, (-2147483648), 2147483647, x3)), (1, (0, 0, (-2147483648), 2147483647, x1)), (0, (2, 0, 0, 0, 0))] _ _ (xa_subI rfl rfl (fun _ _ _ _ => by omega) (xa_subI rfl rfl (fun _ _ _ _ => by omega) (xa_subI rfl rfl (fun _ _ _ _ => by omega) (xa_subI rfl rfl (fun _ _ _ _ => by omega) (xa_subI rfl rfl (fun _ _ _ _ => by omega) (xa_subR rfl (xa_sub0))))))) ?_
              exact loop x2 (by omega) (fun j j0 => by omega) (by unfold sv_ok; omega) (by omega) 15 0 M (by omega) (fun _ _ _ => rfl) (fun j j0 j1 => by omega) (fun _ _ => rfl) (by omega)
          · intro (c5 : x2 < 0)
            show post (some (0, 0, (-2), (-2), (-2))) M
            exact k _ _ _ _ (fun _ _ _ => rfl) (Or.inr ⟨by unfold sv_ok; omega, fun _ => rfl⟩)
        · intro (c4 : x1 = 3)
          show xa_C (xl_I b) A h0 _ 31 [(2, 1, 0, 0, 0)] M _
          refine cx_31s (show 0 ≤ M 1 9 ∧ M 1 9 ≤ 14 by omega) ?_
          intro M102 (i8 : ∀ (q : Nat) (j : Int), ¬ q = 4 → M102 q j = M q j) (i9 : ∀ j : Int, 0 ≤ j → j < M 1 9 → M102 4 j = M 2 j) (i10 : ∀ j : Int, ¬ (0 ≤ j ∧ j < M 1 9) → M102 4 j = M 4 j)
          show post (some (0, 0, (-3), (-3), (-3))) M102
          have ha : x1 = 3 := by omega
          exact k _ _ _ _ i8 (Or.inl ⟨by unfold sv_ok; omega, fun j j0 j1 _ => (i9 j j0 j1).trans (sv_p3 ha rfl), fun j hj => i10 j (fun h => hj ⟨h.1, h.2, Or.inl ha⟩)⟩)
      · intro (c3 : 14 < x2)
        show post (some (0, 0, (-1), (-1), (-1))) M
        exact k _ _ _ _ (fun _ _ _ => rfl) (Or.inr ⟨by unfold sv_ok; omega, fun _ => rfl⟩)
theorem ms_sheetG {A : Nat → Nat} {h0 : g_H} {d : Nat} {M : xa_M} {post : Option xa_V → xa_M → Prop} {l1 u1 l2 u2 l3 u3 l4 u4 : Int} {a b c e : Int} (hI : xm_Inv M) (k : ∀ (o : Option xa_V) (M1 : xa_M), (∃ lo hi n, o = some (0, 0, lo, hi, n)) → (∀ (q : Nat) (j : Int), ¬ xm_scr q j → ¬ q = 63 → M1 q j = M q j) → sv_Q (M 61) (M 62) (M 63) a b c e (M 60 0) (M1 63) → xm_Inv M1 → post o M1) : xa_C xm_I A h0 (d + 3) 219 [(2, 60, 0, 0, 0), (0, 0, l1, u1, a), (0, 0, l2, u2, b), (0, 0, l3, u3, c), (0, 0, l4, u4, e)] M post := by
  refine xa_C_arg [(2, 60, 0, 0, 0), (0, 0, (-2147483648), 2147483647, a), (0, 0, (-2147483648), 2147483647, b), (0, 0, (-2147483648), 2147483647, c), (0, 0, (-2147483648), 2147483647, e)] (xa_svR (xa_svI (fun _ _ _ _ => by omega) (xa_svI (fun _ _ _ _ => by omega) (xa_svI (fun _ _ _ _ => by omega) (xa_svI (fun _ _ _ _ => by omega) xa_sv0))))) ?_
  refine xa_meth (Q0 := (9, 1, false, 0, 0, 12)) (by decide +kernel) ⟨rfl, rfl⟩ (full := s_c_219) rfl rfl ?_
  intro hM hv Q hgo
  have b0 := xm_f0 hM
  have b6 := xm_f6 hM
  have vc : -2147483648 ≤ c ∧ c ≤ 2147483647 := hv _ (List.mem_cons_of_mem _ (List.mem_cons_of_mem _ (List.mem_cons_of_mem _ List.mem_cons_self))) (show (0 : Nat) < 2 by decide)
  have loop : sv_ok a b → ∀ (n : Nat) (w v t : Int) (M1 : xa_M), 0 ≤ w → w ≤ 14 → (∀ q j, ¬ xm_scr q j → ¬ q = 63 → M1 q j = M q j) → (∀ x, 0 ≤ x → x < M 60 0 → 10 ≤ M1 63 x) → v = sv_f c e w → (w ≤ M 60 0 ∧ (a = 3 ∨ w ≤ b)) → (∀ x, 0 ≤ x → x < w → M1 63 x = sv_T (M 61) (M 62) a c e x) → (∀ x, ¬ (0 ≤ x ∧ x < w) → M1 63 x = M 63 x) → 14 - w < (n : Int) → Q 43 [(7, (0, 0, 0, 14, w)), (6, (0, 0, (-2147483648), 2147483647, v)), (5, (0, 0, (-2147483648), 2147483647, t)), (4, (0, 0, (-2147483648), 2147483647, e)), (2, (0, 0, (-2147483648), 14, b)), (1, (0, 0, 0, 3, a)), (0, (2, 60, 0, 0, 0))] [] M1 := by
    intro hok n
    induction n with
    | zero => intro w v t M1 h1 h2 hs ht hv9 hle hT hN hms; omega
    | succ n ih =>
      intro w v t M1 h1 h2 hs ht hv9 hle hT hN hms
      refine hgo.2.2 _ _ _ _ (fun hM1 _ => ?_)
      have e0 := hs 60 0 (by omega) (by omega)
      have a1 := hs 61 w (by omega) (by omega)
      have a2 := hs 62 w (by omega) (by omega)
      have hw := hI.1 w h1
      have t61 : w < 14 → 0 ≤ M1 61 w ∧ M1 61 w ≤ 400 := xm_t61 hM1 w h1
      refine hgo.1 49 [43] 43 _ _ _ ?_
      refine And.intro ?_ ?_
      · intro (c1 : (M1 60 0) ≤ w)
        refine And.intro ?_ ?_
        · intro (c2 : ¬ a = 3)
          show post (some (0, 0, (-2147483648), 2147483647, t)) M1
          exact k _ _ ⟨_, _, _, rfl⟩ hs (Or.inl ⟨hok, fun x x0 x1 x2 => hT x x0 (by omega), fun x hx => hN x (fun h => hx ⟨h.1, by omega, by omega⟩)⟩) (xm_Inv_b (M := M) (fun j => hs 104 j (by omega) (by omega)) (fun j => hs 105 j (by omega) (by omega)) hI (fun x x0 x1 => by
            rw [e0] at x1
            rw [hs 61 x (by omega) (by omega), hs 62 x (by omega) (by omega)]
            have h := hI.1 x x0 x1
            exact ⟨h.1, h.2.1, ht x x0 x1⟩) (fun m m0 m1 => by
            rw [hs 60 6 (by omega) (by omega)] at m1
            rw [hs 66 m (by omega) (by omega), hs 67 m (by omega) (by omega), e0]
            exact hI.2.1 m m0 m1) (fun p p0 p1 => by
            rw [hs 60 11 (by omega) (by omega)] at p1
            rw [hs 70 p (by omega) (by omega), hs 71 p (by omega) (by omega)]
            exact hI.2.2.1 p p0 p1) (by
            rw [hs 60 15 (by omega) (by omega), hs 60 16 (by omega) (by omega)]
            exact hI.2.2.2.1))
        · intro (c2 : a = 3)
          show post (some (0, 0, (-3), (-3), (-3))) M1
          exact k _ _ ⟨_, _, _, rfl⟩ hs (Or.inl ⟨hok, fun x x0 x1 x2 => hT x x0 (by omega), fun x hx => hN x (fun h => hx ⟨h.1, by omega, by omega⟩)⟩) (xm_Inv_b (M := M) (fun j => hs 104 j (by omega) (by omega)) (fun j => hs 105 j (by omega) (by omega)) hI (fun x x0 x1 => by
            rw [e0] at x1
            rw [hs 61 x (by omega) (by omega), hs 62 x (by omega) (by omega)]
            have h := hI.1 x x0 x1
            exact ⟨h.1, h.2.1, ht x x0 x1⟩) (fun m m0 m1 => by
            rw [hs 60 6 (by omega) (by omega)] at m1
            rw [hs 66 m (by omega) (by omega), hs 67 m (by omega) (by omega), e0]
            exact hI.2.1 m m0 m1) (fun p p0 p1 => by
            rw [hs 60 11 (by omega) (by omega)] at p1
            rw [hs 70 p (by omega) (by omega), hs 71 p (by omega) (by omega)]
            exact hI.2.2.1 p p0 p1) (by
            rw [hs 60 15 (by omega) (by omega), hs 60 16 (by omega) (by omega)]
            exact hI.2.2.2.1))
      · intro (c1 : w < (M1 60 0))
        refine And.intro ?_ ?_
        · intro (c3 : a = 3)
          refine And.intro ?_ ?_
          · intro (c4 : ¬ a = 0)
            refine And.intro ?_ ?_
            · intro (c5 : ¬ a = 1)
              refine And.intro ?_ ?_
              · intro (c6 : ¬ a = 3)
                refine And.intro (show 0 ≤ w ∧ w < 14 by omega) ?_
                refine And.intro (show 0 ≤ w ∧ w < 14 by omega) ?_
                show xa_C xm_I A h0 _ 32 [(0, 0, 0, 400, M1 62 w), (0, 0, (-2147483648), 2147483647, v)] M1 _
                refine ct_min (-2147483648) 400 (by decide) (by decide) (by decide) (fun r7 br7 er7 => ?_)
                show xa_C xm_I A h0 _ 35 [(0, 0, 0, 400, M1 61 w), (0, 0, (-2147483648), 400, r7)] M1 _
                refine ct_max 0 400 (by decide) (by decide) (by decide) (fun r8 br8 er8 => ?_)
                refine And.intro (show 0 ≤ w ∧ w < 14 by omega) ?_
                show Q 43 [(7, (0, 0, 1, 15, w + 1)), (5, (0, 0, (-2147483648), 2147483647, xa_w32 (t + 1))), (6, (0, 0, (-2147483648), 2147483647, xa_w32 (v + e))), (8, (0, 0, (-2147483648), 2147483647, v)), (4, (0, 0, (-2147483648), 2147483647, e)), (2, (0, 0, (-2147483648), 14, b)), (1, (0, 0, 0, 3, a)), (0, (2, 60, 0, 0, 0))] [] (xa_up M1 63 w r8)
                refine hgo.2.1 43 _ [(7, (0, 0, 0, 14, w + 1)), (6, (0, 0, (-2147483648), 2147483647, xa_w32 (v + e))), (5, (0, 0, (-2147483648), 2147483647, xa_w32 (t + 1))), (4, (0, 0, (-2147483648), 2147483647, e)), (2, (0, 0, (-2147483648), 14, b)), (1, (0, 0, 0, 3, a)), (0, (2, 60, 0, 0, 0))] _ _ (xa_subI rfl rfl (fun _ _ _ _ => by omega) (xa_subI rfl rfl (fun _ _ _ _ => by omega) (xa_subI rfl rfl (fun _ _ _ _ => by omega) (xa_subI rfl rfl (fun _ _ _ _ => by omega) (xa_subI rfl rfl (fun _ _ _ _ => by omega) (xa_subI rfl rfl (fun _ _ _ _ => by omega) (xa_subR rfl xa_sub0))))))) ?_
                exact ih (w + 1) (xa_w32 (v + e)) (xa_w32 (t + 1)) (xa_up M1 63 w r8) (by omega) (by omega) (fun q j hn hq => by
                  rw [xa_up_ne (fun e => hq e.1)]
                  exact hs q j hn hq) (fun x x0 x1 => by
                  by_cases e : x = w
                  · subst e
                    simp [xa_up]
                    omega
                  · simp [xa_up, e]
                    exact ht x x0 x1) (by rw [hv9]; exact sv_fs) (by omega) (sv_ts hT (sv_pc (kv := v) (q := r7) (by omega) hv9 (by unfold sv_k; rw [if_neg (by omega), if_neg (by omega)]) (by omega) (by omega))) (sv_tn h1 hN) (by omega)
              · intro (c6 : a = 3)
                refine And.intro (show 0 ≤ w ∧ w < 14 by omega) ?_
                refine And.intro (show 0 ≤ w ∧ w < 14 by omega) ?_
                show Q 43 [(7, (0, 0, 1, 15, w + 1)), (5, (0, 0, (-2147483648), 2147483647, xa_w32 (t + 1))), (6, (0, 0, (-2147483648), 2147483647, xa_w32 (v + e))), (8, (0, 0, (-2147483648), 2147483647, v)), (4, (0, 0, (-2147483648), 2147483647, e)), (2, (0, 0, (-2147483648), 14, b)), (1, (0, 0, 0, 3, a)), (0, (2, 60, 0, 0, 0))] [] (xa_up M1 63 w (M1 61 w))
                refine hgo.2.1 43 _ [(7, (0, 0, 0, 14, w + 1)), (6, (0, 0, (-2147483648), 2147483647, xa_w32 (v + e))), (5, (0, 0, (-2147483648), 2147483647, xa_w32 (t + 1))), (4, (0, 0, (-2147483648), 2147483647, e)), (2, (0, 0, (-2147483648), 14, b)), (1, (0, 0, 0, 3, a)), (0, (2, 60, 0, 0, 0))] _ _ (xa_subI rfl rfl (fun _ _ _ _ => by omega) (xa_subI rfl rfl (fun _ _ _ _ => by omega) (xa_subI rfl rfl (fun _ _ _ _ => by omega) (xa_subI rfl rfl (fun _ _ _ _ => by omega) (xa_subI rfl rfl (fun _ _ _ _ => by omega) (xa_subI rfl rfl (fun _ _ _ _ => by omega) (xa_subR rfl xa_sub0))))))) ?_
                exact ih (w + 1) (xa_w32 (v + e)) (xa_w32 (t + 1)) (xa_up M1 63 w (M1 61 w)) (by omega) (by omega) (fun q j hn hq => by
                  rw [xa_up_ne (fun e => hq e.1)]
                  exact hs q j hn hq) (fun x x0 x1 => by
                  by_cases e : x = w
                  · subst e
                    simp [xa_up]
                    omega
                  · simp [xa_up, e]
                    exact ht x x0 x1) (by rw [hv9]; exact sv_fs) (by omega) (sv_ts hT (sv_p3 (by omega) (by omega))) (sv_tn h1 hN) (by omega)
            · intro (c5 : a = 1)
              refine And.intro ?_ ?_
              · intro (c9 : ¬ a = 3)
                refine And.intro (show 0 ≤ w ∧ w < 14 by omega) ?_
                refine And.intro (show 0 ≤ w ∧ w < 14 by omega) ?_
                show xa_C xm_I A h0 _ 32 [(0, 0, 0, 400, M1 62 w), (0, 0, (-32768), 32767, xa_i16 v)] M1 _
                refine ct_min (-32768) 400 (by decide) (by decide) (by decide) (fun r10 br10 er10 => ?_)
                show xa_C xm_I A h0 _ 35 [(0, 0, 0, 400, M1 61 w), (0, 0, (-32768), 400, r10)] M1 _
                refine ct_max 0 400 (by decide) (by decide) (by decide) (fun r11 br11 er11 => ?_)
                refine And.intro (show 0 ≤ w ∧ w < 14 by omega) ?_
                show Q 43 [(7, (0, 0, 1, 15, w + 1)), (5, (0, 0, (-2147483648), 2147483647, xa_w32 (t + 1))), (6, (0, 0, (-2147483648), 2147483647, xa_w32 (v + e))), (8, (0, 0, (-32768), 32767, xa_i16 v)), (4, (0, 0, (-2147483648), 2147483647, e)), (2, (0, 0, (-2147483648), 14, b)), (1, (0, 0, 0, 3, a)), (0, (2, 60, 0, 0, 0))] [] (xa_up M1 63 w r11)
                refine hgo.2.1 43 _ [(7, (0, 0, 0, 14, w + 1)), (6, (0, 0, (-2147483648), 2147483647, xa_w32 (v + e))), (5, (0, 0, (-2147483648), 2147483647, xa_w32 (t + 1))), (4, (0, 0, (-2147483648), 2147483647, e)), (2, (0, 0, (-2147483648), 14, b)), (1, (0, 0, 0, 3, a)), (0, (2, 60, 0, 0, 0))] _ _ (xa_subI rfl rfl (fun _ _ _ _ => by omega) (xa_subI rfl rfl (fun _ _ _ _ => by omega) (xa_subI rfl rfl (fun _ _ _ _ => by omega) (xa_subI rfl rfl (fun _ _ _ _ => by omega) (xa_subI rfl rfl (fun _ _ _ _ => by omega) (xa_subI rfl rfl (fun _ _ _ _ => by omega) (xa_subR rfl xa_sub0))))))) ?_
                exact ih (w + 1) (xa_w32 (v + e)) (xa_w32 (t + 1)) (xa_up M1 63 w r11) (by omega) (by omega) (fun q j hn hq => by
                  rw [xa_up_ne (fun e => hq e.1)]
                  exact hs q j hn hq) (fun x x0 x1 => by
                  by_cases e : x = w
                  · subst e
                    simp [xa_up]
                    omega
                  · simp [xa_up, e]
                    exact ht x x0 x1) (by rw [hv9]; exact sv_fs) (by omega) (sv_ts hT (sv_pc (kv := xa_i16 v) (q := r10) (by omega) hv9 (by unfold sv_k; rw [if_neg (by omega), if_pos (by omega)]) (by omega) (by omega))) (sv_tn h1 hN) (by omega)
              · intro (c9 : a = 3)
                refine And.intro (show 0 ≤ w ∧ w < 14 by omega) ?_
                refine And.intro (show 0 ≤ w ∧ w < 14 by omega) ?_
                show Q 43 [(7, (0, 0, 1, 15, w + 1)), (5, (0, 0, (-2147483648), 2147483647, xa_w32 (t + 1))), (6, (0, 0, (-2147483648), 2147483647, xa_w32 (v + e))), (8, (0, 0, (-32768), 32767, xa_i16 v)), (4, (0, 0, (-2147483648), 2147483647, e)), (2, (0, 0, (-2147483648), 14, b)), (1, (0, 0, 0, 3, a)), (0, (2, 60, 0, 0, 0))] [] (xa_up M1 63 w (M1 61 w))
                refine hgo.2.1 43 _ [(7, (0, 0, 0, 14, w + 1)), (6, (0, 0, (-2147483648), 2147483647, xa_w32 (v + e))), (5, (0, 0, (-2147483648), 2147483647, xa_w32 (t + 1))), (4, (0, 0, (-2147483648), 2147483647, e)), (2, (0, 0, (-2147483648), 14, b)), (1, (0, 0, 0, 3, a)), (0, (2, 60, 0, 0, 0))] _ _ (xa_subI rfl rfl (fun _ _ _ _ => by omega) (xa_subI rfl rfl (fun _ _ _ _ => by omega) (xa_subI rfl rfl (fun _ _ _ _ => by omega) (xa_subI rfl rfl (fun _ _ _ _ => by omega) (xa_subI rfl rfl (fun _ _ _ _ => by omega) (xa_subI rfl rfl (fun _ _ _ _ => by omega) (xa_subR rfl xa_sub0))))))) ?_
                exact ih (w + 1) (xa_w32 (v + e)) (xa_w32 (t + 1)) (xa_up M1 63 w (M1 61 w)) (by omega) (by omega) (fun q j hn hq => by
                  rw [xa_up_ne (fun e => hq e.1)]
                  exact hs q j hn hq) (fun x x0 x1 => by
                  by_cases e : x = w
                  · subst e
                    simp [xa_up]
                    omega
                  · simp [xa_up, e]
                    exact ht x x0 x1) (by rw [hv9]; exact sv_fs) (by omega) (sv_ts hT (sv_p3 (by omega) (by omega))) (sv_tn h1 hN) (by omega)
          · intro (c4 : a = 0)
            refine And.intro ?_ ?_
            · intro (c12 : ¬ a = 3)
              refine And.intro (show 0 ≤ w ∧ w < 14 by omega) ?_
              refine And.intro (show 0 ≤ w ∧ w < 14 by omega) ?_
              show xa_C xm_I A h0 _ 32 [(0, 0, 0, 400, M1 62 w), (0, 0, (-128), 127, xa_i8 v)] M1 _
              refine ct_min (-128) 127 (by decide) (by decide) (by decide) (fun r13 br13 er13 => ?_)
              show xa_C xm_I A h0 _ 35 [(0, 0, 0, 400, M1 61 w), (0, 0, (-128), 127, r13)] M1 _
              refine ct_max 0 400 (by decide) (by decide) (by decide) (fun r14 br14 er14 => ?_)
              refine And.intro (show 0 ≤ w ∧ w < 14 by omega) ?_
              show Q 43 [(7, (0, 0, 1, 15, w + 1)), (5, (0, 0, (-2147483648), 2147483647, xa_w32 (t + 1))), (6, (0, 0, (-2147483648), 2147483647, xa_w32 (v + e))), (8, (0, 0, (-128), 127, xa_i8 v)), (4, (0, 0, (-2147483648), 2147483647, e)), (2, (0, 0, (-2147483648), 14, b)), (1, (0, 0, 0, 3, a)), (0, (2, 60, 0, 0, 0))] [] (xa_up M1 63 w r14)
              refine hgo.2.1 43 _ [(7, (0, 0, 0, 14, w + 1)), (6, (0, 0, (-2147483648), 2147483647, xa_w32 (v + e))), (5, (0, 0, (-2147483648), 2147483647, xa_w32 (t + 1))), (4, (0, 0, (-2147483648), 2147483647, e)), (2, (0, 0, (-2147483648), 14, b)), (1, (0, 0, 0, 3, a)), (0, (2, 60, 0, 0, 0))] _ _ (xa_subI rfl rfl (fun _ _ _ _ => by omega) (xa_subI rfl rfl (fun _ _ _ _ => by omega) (xa_subI rfl rfl (fun _ _ _ _ => by omega) (xa_subI rfl rfl (fun _ _ _ _ => by omega) (xa_subI rfl rfl (fun _ _ _ _ => by omega) (xa_subI rfl rfl (fun _ _ _ _ => by omega) (xa_subR rfl xa_sub0))))))) ?_
              exact ih (w + 1) (xa_w32 (v + e)) (xa_w32 (t + 1)) (xa_up M1 63 w r14) (by omega) (by omega) (fun q j hn hq => by
                rw [xa_up_ne (fun e => hq e.1)]
                exact hs q j hn hq) (fun x x0 x1 => by
                by_cases e : x = w
                · subst e
                  simp [xa_up]
                  omega
                · simp [xa_up, e]
                  exact ht x x0 x1) (by rw [hv9]; exact sv_fs) (by omega) (sv_ts hT (sv_pc (kv := xa_i8 v) (q := r13) (by omega) hv9 (by unfold sv_k; rw [if_pos (by omega)]) (by omega) (by omega))) (sv_tn h1 hN) (by omega)
            · intro (c12 : a = 3)
              refine And.intro (show 0 ≤ w ∧ w < 14 by omega) ?_
              refine And.intro (show 0 ≤ w ∧ w < 14 by omega) ?_
              show Q 43 [(7, (0, 0, 1, 15, w + 1)), (5, (0, 0, (-2147483648), 2147483647, xa_w32 (t + 1))), (6, (0, 0, (-2147483648), 2147483647, xa_w32 (v + e))), (8, (0, 0, (-128), 127, xa_i8 v)), (4, (0, 0, (-2147483648), 2147483647, e)), (2, (0, 0, (-2147483648), 14, b)), (1, (0, 0, 0, 3, a)), (0, (2, 60, 0, 0, 0))] [] (xa_up M1 63 w (M1 61 w))
              refine hgo.2.1 43 _ [(7, (0, 0, 0, 14, w + 1)), (6, (0, 0, (-2147483648), 2147483647, xa_w32 (v + e))), (5, (0, 0, (-2147483648), 2147483647, xa_w32 (t + 1))), (4, (0, 0, (-2147483648), 2147483647, e)), (2, (0, 0, (-2147483648), 14, b)), (1, (0, 0, 0, 3, a)), (0, (2, 60, 0, 0, 0))] _ _ (xa_subI rfl rfl (fun _ _ _ _ => by omega) (xa_subI rfl rfl (fun _ _ _ _ => by omega) (xa_subI rfl rfl (fun _ _ _ _ => by omega) (xa_subI rfl rfl (fun _ _ _ _ => by omega) (xa_subI rfl rfl (fun _ _ _ _ => by omega) (xa_subI rfl rfl (fun _ _ _ _ => by omega) (xa_subR rfl xa_sub0))))))) ?_
              exact ih (w + 1) (xa_w32 (v + e)) (xa_w32 (t + 1)) (xa_up M1 63 w (M1 61 w)) (by omega) (by omega) (fun q j hn hq => by
                rw [xa_up_ne (fun e => hq e.1)]
                exact hs q j hn hq) (fun x x0 x1 => by
                by_cases e : x = w
                · subst e
                  simp [xa_up]
                  omega
                · simp [xa_up, e]
                  exact ht x x0 x1) (by rw [hv9]; exact sv_fs) (by omega) (sv_ts hT (sv_p3 (by omega) (by omega))) (sv_tn h1 hN) (by omega)
        · intro (c3 : ¬ a = 3)
          refine And.intro ?_ ?_
          · intro (c15 : b ≤ w)
            refine And.intro ?_ ?_
            · intro (c16 : ¬ a = 3)
              show post (some (0, 0, (-2147483648), 2147483647, t)) M1
              exact k _ _ ⟨_, _, _, rfl⟩ hs (Or.inl ⟨hok, fun x x0 x1 x2 => hT x x0 (by omega), fun x hx => hN x (fun h => hx ⟨h.1, by omega, by omega⟩)⟩) (xm_Inv_b (M := M) (fun j => hs 104 j (by omega) (by omega)) (fun j => hs 105 j (by omega) (by omega)) hI (fun x x0 x1 => by
                rw [e0] at x1
                rw [hs 61 x (by omega) (by omega), hs 62 x (by omega) (by omega)]
                have h := hI.1 x x0 x1
                exact ⟨h.1, h.2.1, ht x x0 x1⟩) (fun m m0 m1 => by
                rw [hs 60 6 (by omega) (by omega)] at m1
                rw [hs 66 m (by omega) (by omega), hs 67 m (by omega) (by omega), e0]
                exact hI.2.1 m m0 m1) (fun p p0 p1 => by
                rw [hs 60 11 (by omega) (by omega)] at p1
                rw [hs 70 p (by omega) (by omega), hs 71 p (by omega) (by omega)]
                exact hI.2.2.1 p p0 p1) (by
                rw [hs 60 15 (by omega) (by omega), hs 60 16 (by omega) (by omega)]
                exact hI.2.2.2.1))
            · intro (c16 : a = 3)
              show post (some (0, 0, (-3), (-3), (-3))) M1
              exact k _ _ ⟨_, _, _, rfl⟩ hs (Or.inl ⟨hok, fun x x0 x1 x2 => hT x x0 (by omega), fun x hx => hN x (fun h => hx ⟨h.1, by omega, by omega⟩)⟩) (xm_Inv_b (M := M) (fun j => hs 104 j (by omega) (by omega)) (fun j => hs 105 j (by omega) (by omega)) hI (fun x x0 x1 => by
                rw [e0] at x1
                rw [hs 61 x (by omega) (by omega), hs 62 x (by omega) (by omega)]
                have h := hI.1 x x0 x1
                exact ⟨h.1, h.2.1, ht x x0 x1⟩) (fun m m0 m1 => by
                rw [hs 60 6 (by omega) (by omega)] at m1
                rw [hs 66 m (by omega) (by omega), hs 67 m (by omega) (by omega), e0]
                exact hI.2.1 m m0 m1) (fun p p0 p1 => by
                rw [hs 60 11 (by omega) (by omega)] at p1
                rw [hs 70 p (by omega) (by omega), hs 71 p (by omega) (by omega)]
                exact hI.2.2.1 p p0 p1) (by
                rw [hs 60 15 (by omega) (by omega), hs 60 16 (by omega) (by omega)]
                exact hI.2.2.2.1))
          · intro (c15 : w < b)
            refine And.intro ?_ ?_
            · intro (c17 : ¬ a = 0)
              refine And.intro ?_ ?_
              · intro (c18 : ¬ a = 1)
                refine And.intro ?_ ?_
                · intro (c19 : ¬ a = 3)
                  refine And.intro (show 0 ≤ w ∧ w < 14 by omega) ?_
                  refine And.intro (show 0 ≤ w ∧ w < 14 by omega) ?_
                  show xa_C xm_I A h0 _ 32 [(0, 0, 0, 400, M1 62 w), (0, 0, (-2147483648), 2147483647, v)] M1 _
                  refine ct_min (-2147483648) 400 (by decide) (by decide) (by decide) (fun r20 br20 er20 => ?_)
                  show xa_C xm_I A h0 _ 35 [(0, 0, 0, 400, M1 61 w), (0, 0, (-2147483648), 400, r20)] M1 _
                  refine ct_max 0 400 (by decide) (by decide) (by decide) (fun r21 br21 er21 => ?_)
                  refine And.intro (show 0 ≤ w ∧ w < 14 by omega) ?_
                  show Q 43 [(7, (0, 0, 1, 15, w + 1)), (5, (0, 0, (-2147483648), 2147483647, xa_w32 (t + 1))), (6, (0, 0, (-2147483648), 2147483647, xa_w32 (v + e))), (8, (0, 0, (-2147483648), 2147483647, v)), (4, (0, 0, (-2147483648), 2147483647, e)), (2, (0, 0, (-2147483648), 14, b)), (1, (0, 0, 0, 3, a)), (0, (2, 60, 0, 0, 0))] [] (xa_up M1 63 w r21)
                  refine hgo.2.1 43 _ [(7, (0, 0, 0, 14, w + 1)), (6, (0, 0, (-2147483648), 2147483647, xa_w32 (v + e))), (5, (0, 0, (-2147483648), 2147483647, xa_w32 (t + 1))), (4, (0, 0, (-2147483648), 2147483647, e)), (2, (0, 0, (-2147483648), 14, b)), (1, (0, 0, 0, 3, a)), (0, (2, 60, 0, 0, 0))] _ _ (xa_subI rfl rfl (fun _ _ _ _ => by omega) (xa_subI rfl rfl (fun _ _ _ _ => by omega) (xa_subI rfl rfl (fun _ _ _ _ => by omega) (xa_subI rfl rfl (fun _ _ _ _ => by omega) (xa_subI rfl rfl (fun _ _ _ _ => by omega) (xa_subI rfl rfl (fun _ _ _ _ => by omega) (xa_subR rfl xa_sub0))))))) ?_
                  exact ih (w + 1) (xa_w32 (v + e)) (xa_w32 (t + 1)) (xa_up M1 63 w r21) (by omega) (by omega) (fun q j hn hq => by
                    rw [xa_up_ne (fun e => hq e.1)]
                    exact hs q j hn hq) (fun x x0 x1 => by
                    by_cases e : x = w
                    · subst e
                      simp [xa_up]
                      omega
                    · simp [xa_up, e]
                      exact ht x x0 x1) (by rw [hv9]; exact sv_fs) (by omega) (sv_ts hT (sv_pc (kv := v) (q := r20) (by omega) hv9 (by unfold sv_k; rw [if_neg (by omega), if_neg (by omega)]) (by omega) (by omega))) (sv_tn h1 hN) (by omega)
                · intro (c19 : a = 3)
                  refine And.intro (show 0 ≤ w ∧ w < 14 by omega) ?_
                  refine And.intro (show 0 ≤ w ∧ w < 14 by omega) ?_
                  show Q 43 [(7, (0, 0, 1, 15, w + 1)), (5, (0, 0, (-2147483648), 2147483647, xa_w32 (t + 1))), (6, (0, 0, (-2147483648), 2147483647, xa_w32 (v + e))), (8, (0, 0, (-2147483648), 2147483647, v)), (4, (0, 0, (-2147483648), 2147483647, e)), (2, (0, 0, (-2147483648), 14, b)), (1, (0, 0, 0, 3, a)), (0, (2, 60, 0, 0, 0))] [] (xa_up M1 63 w (M1 61 w))
                  refine hgo.2.1 43 _ [(7, (0, 0, 0, 14, w + 1)), (6, (0, 0, (-2147483648), 2147483647, xa_w32 (v + e))), (5, (0, 0, (-2147483648), 2147483647, xa_w32 (t + 1))), (4, (0, 0, (-2147483648), 2147483647, e)), (2, (0, 0, (-2147483648), 14, b)), (1, (0, 0, 0, 3, a)), (0, (2, 60, 0, 0, 0))] _ _ (xa_subI rfl rfl (fun _ _ _ _ => by omega) (xa_subI rfl rfl (fun _ _ _ _ => by omega) (xa_subI rfl rfl (fun _ _ _ _ => by omega) (xa_subI rfl rfl (fun _ _ _ _ => by omega) (xa_subI rfl rfl (fun _ _ _ _ => by omega) (xa_subI rfl rfl (fun _ _ _ _ => by omega) (xa_subR rfl xa_sub0))))))) ?_
                  exact ih (w + 1) (xa_w32 (v + e)) (xa_w32 (t + 1)) (xa_up M1 63 w (M1 61 w)) (by omega) (by omega) (fun q j hn hq => by
                    rw [xa_up_ne (fun e => hq e.1)]
                    exact hs q j hn hq) (fun x x0 x1 => by
                    by_cases e : x = w
                    · subst e
                      simp [xa_up]
                      omega
                    · simp [xa_up, e]
                      exact ht x x0 x1) (by rw [hv9]; exact sv_fs) (by omega) (sv_ts hT (sv_p3 (by omega) (by omega))) (sv_tn h1 hN) (by omega)
              · intro (c18 : a = 1)
                refine And.intro ?_ ?_
                · intro (c22 : ¬ a = 3)
                  refine And.intro (show 0 ≤ w ∧ w < 14 by omega) ?_
                  refine And.intro (show 0 ≤ w ∧ w < 14 by omega) ?_
                  show xa_C xm_I A h0 _ 32 [(0, 0, 0, 400, M1 62 w), (0, 0, (-32768), 32767, xa_i16 v)] M1 _
                  refine ct_min (-32768) 400 (by decide) (by decide) (by decide) (fun r23 br23 er23 => ?_)
                  show xa_C xm_I A h0 _ 35 [(0, 0, 0, 400, M1 61 w), (0, 0, (-32768), 400, r23)] M1 _
                  refine ct_max 0 400 (by decide) (by decide) (by decide) (fun r24 br24 er24 => ?_)
                  refine And.intro (show 0 ≤ w ∧ w < 14 by omega) ?_
                  show Q 43 [(7, (0, 0, 1, 15, w + 1)), (5, (0, 0, (-2147483648), 2147483647, xa_w32 (t + 1))), (6, (0, 0, (-2147483648), 2147483647, xa_w32 (v + e))), (8, (0, 0, (-32768), 32767, xa_i16 v)), (4, (0, 0, (-2147483648), 2147483647, e)), (2, (0, 0, (-2147483648), 14, b)), (1, (0, 0, 0, 3, a)), (0, (2, 60, 0, 0, 0))] [] (xa_up M1 63 w r24)
                  refine hgo.2.1 43 _ [(7, (0, 0, 0, 14, w + 1)), (6, (0, 0, (-2147483648), 2147483647, xa_w32 (v + e))), (5, (0, 0, (-2147483648), 2147483647, xa_w32 (t + 1))), (4, (0, 0, (-2147483648), 2147483647, e)), (2, (0, 0, (-2147483648), 14, b)), (1, (0, 0, 0, 3, a)), (0, (2, 60, 0, 0, 0))] _ _ (xa_subI rfl rfl (fun _ _ _ _ => by omega) (xa_subI rfl rfl (fun _ _ _ _ => by omega) (xa_subI rfl rfl (fun _ _ _ _ => by omega) (xa_subI rfl rfl (fun _ _ _ _ => by omega) (xa_subI rfl rfl (fun _ _ _ _ => by omega) (xa_subI rfl rfl (fun _ _ _ _ => by omega) (xa_subR rfl xa_sub0))))))) ?_
                  exact ih (w + 1) (xa_w32 (v + e)) (xa_w32 (t + 1)) (xa_up M1 63 w r24) (by omega) (by omega) (fun q j hn hq => by
                    rw [xa_up_ne (fun e => hq e.1)]
                    exact hs q j hn hq) (fun x x0 x1 => by
                    by_cases e : x = w
                    · subst e
                      simp [xa_up]
                      omega
                    · simp [xa_up, e]
                      exact ht x x0 x1) (by rw [hv9]; exact sv_fs) (by omega) (sv_ts hT (sv_pc (kv := xa_i16 v) (q := r23) (by omega) hv9 (by unfold sv_k; rw [if_neg (by omega), if_pos (by omega)]) (by omega) (by omega))) (sv_tn h1 hN) (by omega)
                · intro (c22 : a = 3)
                  refine And.intro (show 0 ≤ w ∧ w < 14 by omega) ?_
                  refine And.intro (show 0 ≤ w ∧ w < 14 by omega) ?_
                  show Q 43 [(7, (0, 0, 1, 15, w + 1)), (5, (0, 0, (-2147483648), 2147483647, xa_w32 (t + 1))), (6, (0, 0, (-2147483648), 2147483647, xa_w32 (v + e))), (8, (0, 0, (-32768), 32767, xa_i16 v)), (4, (0, 0, (-2147483648), 2147483647, e)), (2, (0, 0, (-2147483648), 14, b)), (1, (0, 0, 0, 3, a)), (0, (2, 60, 0, 0, 0))] [] (xa_up M1 63 w (M1 61 w))
                  refine hgo.2.1 43 _ [(7, (0, 0, 0, 14, w + 1)), (6, (0, 0, (-2147483648), 2147483647, xa_w32 (v + e))), (5, (0, 0, (-2147483648), 2147483647, xa_w32 (t + 1))), (4, (0, 0, (-2147483648), 2147483647, e)), (2, (0, 0, (-2147483648), 14, b)), (1, (0, 0, 0, 3, a)), (0, (2, 60, 0, 0, 0))] _ _ (xa_subI rfl rfl (fun _ _ _ _ => by omega) (xa_subI rfl rfl (fun _ _ _ _ => by omega) (xa_subI rfl rfl (fun _ _ _ _ => by omega) (xa_subI rfl rfl (fun _ _ _ _ => by omega) (xa_subI rfl rfl (fun _ _ _ _ => by omega) (xa_subI rfl rfl (fun _ _ _ _ => by omega) (xa_subR rfl xa_sub0))))))) ?_
                  exact ih (w + 1) (xa_w32 (v + e)) (xa_w32 (t + 1)) (xa_up M1 63 w (M1 61 w)) (by omega) (by omega) (fun q j hn hq => by
                    rw [xa_up_ne (fun e => hq e.1)]
                    exact hs q j hn hq) (fun x x0 x1 => by
                    by_cases e : x = w
                    · subst e
                      simp [xa_up]
                      omega
                    · simp [xa_up, e]
                      exact ht x x0 x1) (by rw [hv9]; exact sv_fs) (by omega) (sv_ts hT (sv_p3 (by omega) (by omega))) (sv_tn h1 hN) (by omega)
            · intro (c17 : a = 0)
              refine And.intro ?_ ?_
              · intro (c25 : ¬ a = 3)
                refine And.intro (show 0 ≤ w ∧ w < 14 by omega) ?_
                refine And.intro (show 0 ≤ w ∧ w < 14 by omega) ?_
                show xa_C xm_I A h0 _ 32 [(0, 0, 0, 400, M1 62 w), (0, 0, (-128), 127, xa_i8 v)] M1 _
                refine ct_min (-128) 127 (by decide) (by decide) (by decide) (fun r26 br26 er26 => ?_)
                show xa_C xm_I A h0 _ 35 [(0, 0, 0, 400, M1 61 w), (0, 0, (-128), 127, r26)] M1 _
                refine ct_max 0 400 (by decide) (by decide) (by decide) (fun r27 br27 er27 => ?_)
                refine And.intro (show 0 ≤ w ∧ w < 14 by omega) ?_
                show Q 43 [(7, (0, 0, 1, 15, w + 1)), (5, (0, 0, (-2147483648), 2147483647, xa_w32 (t + 1))), (6, (0, 0, (-2147483648), 2147483647, xa_w32 (v + e))), (8, (0, 0, (-128), 127, xa_i8 v)), (4, (0, 0, (-2147483648), 2147483647, e)), (2, (0, 0, (-2147483648), 14, b)), (1, (0, 0, 0, 3, a)), (0, (2, 60, 0, 0, 0))] [] (xa_up M1 63 w r27)
                refine hgo.2.1 43 _ [(7, (0, 0, 0, 14, w + 1)), (6, (0, 0, (-2147483648), 2147483647, xa_w32 (v + e))), (5, (0, 0, (-2147483648), 2147483647, xa_w32 (t + 1))), (4, (0, 0, (-2147483648), 2147483647, e)), (2, (0, 0, (-2147483648), 14, b)), (1, (0, 0, 0, 3, a)), (0, (2, 60, 0, 0, 0))] _ _ (xa_subI rfl rfl (fun _ _ _ _ => by omega) (xa_subI rfl rfl (fun _ _ _ _ => by omega) (xa_subI rfl rfl (fun _ _ _ _ => by omega) (xa_subI rfl rfl (fun _ _ _ _ => by omega) (xa_subI rfl rfl (fun _ _ _ _ => by omega) (xa_subI rfl rfl (fun _ _ _ _ => by omega) (xa_subR rfl xa_sub0))))))) ?_
                exact ih (w + 1) (xa_w32 (v + e)) (xa_w32 (t + 1)) (xa_up M1 63 w r27) (by omega) (by omega) (fun q j hn hq => by
                  rw [xa_up_ne (fun e => hq e.1)]
                  exact hs q j hn hq) (fun x x0 x1 => by
                  by_cases e : x = w
                  · subst e
                    simp [xa_up]
                    omega
                  · simp [xa_up, e]
                    exact ht x x0 x1) (by rw [hv9]; exact sv_fs) (by omega) (sv_ts hT (sv_pc (kv := xa_i8 v) (q := r26) (by omega) hv9 (by unfold sv_k; rw [if_pos (by omega)]) (by omega) (by omega))) (sv_tn h1 hN) (by omega)
              · intro (c25 : a = 3)
                refine And.intro (show 0 ≤ w ∧ w < 14 by omega) ?_
                refine And.intro (show 0 ≤ w ∧ w < 14 by omega) ?_
                show Q 43 [(7, (0, 0, 1, 15, w + 1)), (5, (0, 0, (-2147483648), 2147483647, xa_w32 (t + 1))), (6, (0, 0, (-2147483648), 2147483647, xa_w32 (v + e))), (8, (0, 0, (-128), 127, xa_i8 v)), (4, (0, 0, (-2147483648), 2147483647, e)), (2, (0, 0, (-2147483648), 14, b)), (1, (0, 0, 0, 3, a)), (0, (2, 60, 0, 0, 0))] [] (xa_up M1 63 w (M1 61 w))
                refine hgo.2.1 43 _ [(7, (0, 0, 0, 14, w + 1)), (6, (0, 0, (-2147483648), 2147483647, xa_w32 (v + e))), (5, (0, 0, (-2147483648), 2147483647, xa_w32 (t + 1))), (4, (0, 0, (-2147483648), 2147483647, e)), (2, (0, 0, (-2147483648), 14, b)), (1, (0, 0, 0, 3, a)), (0, (2, 60, 0, 0, 0))] _ _ (xa_subI rfl rfl (fun _ _ _ _ => by omega) (xa_subI rfl rfl (fun _ _ _ _ => by omega) (xa_subI rfl rfl (fun _ _ _ _ => by omega) (xa_subI rfl rfl (fun _ _ _ _ => by omega) (xa_subI rfl rfl (fun _ _ _ _ => by omega) (xa_subI rfl rfl (fun _ _ _ _ => by omega) (xa_subR rfl xa_sub0))))))) ?_
                exact ih (w + 1) (xa_w32 (v + e)) (xa_w32 (t + 1)) (xa_up M1 63 w (M1 61 w)) (by omega) (by omega) (fun q j hn hq => by
                  rw [xa_up_ne (fun e => hq e.1)]
                  exact hs q j hn hq) (fun x x0 x1 => by
                  by_cases e : x = w
                  · subst e
                    simp [xa_up]
                    omega
                  · simp [xa_up, e]
                    exact ht x x0 x1) (by rw [hv9]; exact sv_fs) (by omega) (sv_ts hT (sv_p3 (by omega) (by omega))) (sv_tn h1 hN) (by omega)
  refine hgo.1 27 [43] 0 _ _ _ ?_
  show xa_C xm_I A h0 _ 214 [(0, 0, (-2147483648), 2147483647, a), (0, 0, 0, 0, 0), (0, 0, 3, 3, 3)] (xa_up M 60 21 0) _
  refine ct_in ?_ ?_
  · intro (i1 : 0 ≤ a ∧ a ≤ 3)
    refine And.intro ?_ ?_
    · intro (c2 : b ≤ 14)
      refine And.intro ?_ ?_
      · intro (c3 : 3 ≤ a)
        show Q 43 [(7, (0, 0, 0, 0, 0)), (6, (0, 0, (-2147483648), 2147483647, c)), (5, (0, 0, 0, 0, 0)), (0, (2, 60, 0, 0, 0)), (1, (0, 0, (-2147483648), 2147483647, a)), (2, (0, 0, (-2147483648), 2147483647, b)), (3, (0, 0, (-2147483648), 2147483647, c)), (4, (0, 0, (-2147483648), 2147483647, e))] [] (xa_up M 60 21 0)
        refine hgo.2.1 43 _ [(7, (0, 0, 0, 14, 0)), (6, (0, 0, (-2147483648), 2147483647, c)), (5, (0, 0, (-2147483648), 2147483647, 0)), (4, (0, 0, (-2147483648), 2147483647, e)), (2, (0, 0, (-2147483648), 14, b)), (1, (0, 0, 0, 3, a)), (0, (2, 60, 0, 0, 0))] _ _ (xa_subI rfl rfl (fun _ _ _ _ => by omega) (xa_subI rfl rfl (fun _ _ _ _ => by omega) (xa_subI rfl rfl (fun _ _ _ _ => by omega) (xa_subI rfl rfl (fun _ _ _ _ => by omega) (xa_subI rfl rfl (fun _ _ _ _ => by omega) (xa_subI rfl rfl (fun _ _ _ _ => by omega) (xa_subR rfl xa_sub0))))))) ?_
        exact loop (by unfold sv_ok; omega) 15 0 c 0 (xa_up M 60 21 0) (by omega) (by omega) (fun q j hn hq => by rw [xa_up_ne (fun e => hn (by omega))]) (fun x x0 x1 => by simp [xa_up]; exact (hI.1 x x0 x1).2.2) (sv_f0 vc.1 vc.2).symm (by omega) (fun x x0 x1 => by omega) (fun x _ => xa_up_ne (by omega)) (by omega)
      · intro (c3 : a < 3)
        refine And.intro ?_ ?_
        · intro (c4 : 0 ≤ b)
          show Q 43 [(7, (0, 0, 0, 0, 0)), (6, (0, 0, (-2147483648), 2147483647, c)), (5, (0, 0, 0, 0, 0)), (0, (2, 60, 0, 0, 0)), (1, (0, 0, (-2147483648), 2147483647, a)), (2, (0, 0, (-2147483648), 2147483647, b)), (3, (0, 0, (-2147483648), 2147483647, c)), (4, (0, 0, (-2147483648), 2147483647, e))] [] (xa_up M 60 21 0)
          refine hgo.2.1 43 _ [(7, (0, 0, 0, 14, 0)), (6, (0, 0, (-2147483648), 2147483647, c)), (5, (0, 0, (-2147483648), 2147483647, 0)), (4, (0, 0, (-2147483648), 2147483647, e)), (2, (0, 0, (-2147483648), 14, b)), (1, (0, 0, 0, 3, a)), (0, (2, 60, 0, 0, 0))] _ _ (xa_subI rfl rfl (fun _ _ _ _ => by omega) (xa_subI rfl rfl (fun _ _ _ _ => by omega) (xa_subI rfl rfl (fun _ _ _ _ => by omega) (xa_subI rfl rfl (fun _ _ _ _ => by omega) (xa_subI rfl rfl (fun _ _ _ _ => by omega) (xa_subI rfl rfl (fun _ _ _ _ => by omega) (xa_subR rfl xa_sub0))))))) ?_
          exact loop (by unfold sv_ok; omega) 15 0 c 0 (xa_up M 60 21 0) (by omega) (by omega) (fun q j hn hq => by rw [xa_up_ne (fun e => hn (by omega))]) (fun x x0 x1 => by simp [xa_up]; exact (hI.1 x x0 x1).2.2) (sv_f0 vc.1 vc.2).symm (by omega) (fun x x0 x1 => by omega) (fun x _ => xa_up_ne (by omega)) (by omega)
        · intro (c4 : b < 0)
          show post (some (0, 0, (-2), (-2), (-2))) (xa_up M 60 21 0)
          exact k _ _ ⟨_, _, _, rfl⟩ (fun q j hn _ => xm_cor_f (by omega) xm_cor_r q j hn) (Or.inr ⟨by unfold sv_ok; omega, fun i => xa_up_ne (by omega)⟩) (xm_Inv_cor (xm_cor_f (by omega) xm_cor_r) hI)
    · intro (c2 : 14 < b)
      show post (some (0, 0, (-1), (-1), (-1))) (xa_up M 60 21 0)
      exact k _ _ ⟨_, _, _, rfl⟩ (fun q j hn _ => xm_cor_f (by omega) xm_cor_r q j hn) (Or.inr ⟨by unfold sv_ok; omega, fun i => xa_up_ne (by omega)⟩) (xm_Inv_cor (xm_cor_f (by omega) xm_cor_r) hI)
  · intro (i1 : ¬ (0 ≤ a ∧ a ≤ 3))
    show post (some (0, 0, (-1), (-1), (-1))) (xa_up M 60 21 0)
    exact k _ _ ⟨_, _, _, rfl⟩ (fun q j hn _ => xm_cor_f (by omega) xm_cor_r q j hn) (Or.inr ⟨by unfold sv_ok; omega, fun i => xa_up_ne (by omega)⟩) (xm_Inv_cor (xm_cor_f (by omega) xm_cor_r) hI)
-- fittings, on both sides
set_option maxRecDepth 20000
theorem cx_60b {b : Bool} {A : Nat → Nat} {h0 : g_H} {d : Nat} {M : xa_M} {post : Option xa_V → xa_M → Prop} {l1 u1 x1 : Int} (h1 : (0 : Int) ≤ M 48 1) (k : ∀ M1 : xa_M, (∀ (q : Nat) (j : Int), ¬ (q = 48 ∨ q = 49) → M1 q j = M q j) → (0 : Int) ≤ M1 48 1 → post none M1) : xa_C (xl_I b) A h0 (d + 2) 60 [(2, 48, 0, 0, 0), (1, 0, l1, u1, x1)] M post :=
  cx_60_48 h1 (fun _ => k M (fun _ _ _ => rfl) h1) (fun h => k _ (fun q j hq => (xa_up_ne (by omega)).trans (xa_up_ne (by omega))) (by
    rw [xa_up_eq, xa_w32_id (by omega) (by omega)]
    omega))
/-- what fittings answers -/
def tf_85 (N : xa_M) (X p r : Int) : Prop := ∃ (e s : Int) (W R : Int → Int), tk_S N X p e s W R ∧ ((¬ e = 0 ∧ r = e) ∨ (e = 0 ∧ r = fs_c (tk_F N s W R p) (tk_pr N s W).toNat))
theorem tf_85_one {N : xa_M} {X p r r' : Int} (hM : tk_M N) (h : tf_85 N X p r) (h' : tf_85 N X p r') : r = r' := by
  obtain ⟨e, s, W, R, hS, h1⟩ := h
  obtain ⟨e', s', W', R', hS', h2⟩ := h'
  obtain ⟨ee, k⟩ := tk_S_one hM hS hS'
  subst ee
  rcases h1 with ⟨a1, a2⟩ | ⟨a1, a2⟩
  · rcases h2 with ⟨-, b2⟩ | ⟨b1, -⟩
    · omega
    · exact absurd b1 a1
  · rcases h2 with ⟨b1, -⟩ | ⟨-, b2⟩
    · exact absurd a1 b1
    · obtain ⟨rfl, k2⟩ := k (Or.inl a1)
      obtain ⟨k3, k4, -, -⟩ := tk_e (M := N) k2
      rw [a2, b2, k3 p, k4]
/-- what is told has become other -/
theorem tk_re {N M1 M2 Ma : xa_M} {X p i : Int} (hZ : tk_Z N X p Ma) (hS : tk_S N X p 0 (Ma 15 10) (Ma 21) (Ma 22)) (hK : fa_K Ma M1) (hst : tk_st N p Ma M1 i) (hge : i ≤ fs_c (tk_F N (Ma 15 10) (Ma 21) (Ma 22) p) (tk_pr N (Ma 15 10) (Ma 21)).toNat) (e : ∀ (q : Nat) (j : Int), ¬ (q = 48 ∨ q = 49) → M2 q j = M1 q j) : ∃ Ma' : xa_M, tk_Z N X p Ma' ∧ tk_S N X p 0 (Ma' 15 10) (Ma' 21) (Ma' 22) ∧ fa_K Ma' M2 ∧ tk_st N p Ma' M2 i ∧ i ≤ fs_c (tk_F N (Ma' 15 10) (Ma' 21) (Ma' 22) p) (tk_pr N (Ma' 15 10) (Ma' 21)).toNat := by
  obtain ⟨Ma', hm⟩ : ∃ Ma' : xa_M, ∀ (q : Nat) (j : Int), Ma' q j = if q = 48 ∨ q = 49 then M2 q j else Ma q j := ⟨fun q j => if q = 48 ∨ q = 49 then M2 q j else Ma q j, fun _ _ => rfl⟩
  have hn : ∀ q, ¬ (q = 48 ∨ q = 49) → Ma' q = Ma q := fun q hq => funext (fun j => (hm q j).trans (if_neg hq))
  have hn2 : ∀ q, ¬ (q = 48 ∨ q = 49) → M2 q = M1 q := fun q hq => funext (fun j => e q j hq)
  have e15 := hn 15 (by decide)
  have e21 := hn 21 (by decide)
  have e22 := hn 22 (by decide)
  have e23 := hn 23 (by decide)
  have e24 := hn 24 (by decide)
  have f15 := hn2 15 (by decide)
  have f22 := hn2 22 (by decide)
  have f25 := hn2 25 (by decide)
  have f26 := hn2 26 (by decide)
  have f27 := hn2 27 (by decide)
  refine ⟨Ma', ?_, ?_, fun q j a b c d => ?_, ?_, ?_⟩
  · unfold tk_Z tk_A
    rw [e15, e21, e22, e23, e24]
    exact hZ
  · rw [e15, e21, e22]
    exact hS
  · by_cases hq : q = 48 ∨ q = 49
    · rw [hm q j, if_pos hq]
    · rw [hm q j, if_neg hq, e q j hq]
      exact hK q j a b c d
  · unfold tk_st fa_S fb_P at hst ⊢
    rw [e15, e21, e22, e23, e24, f15, f22, f25, f26, f27]
    exact hst
  · rw [e15, e21, e22]
    exact hge
theorem tk_ge {N : xa_M} {s p i : Int} {W R V : Int → Int} (hin : tk_in N s W V) (hF : tk_F N s W R p (tk_rk N s W V)) (hc : fs_c (tk_F N s W R p) (tk_rk N s W V).toNat = i) : i + 1 ≤ fs_c (tk_F N s W R p) (tk_pr N s W).toNat := by
  obtain ⟨b0, b1⟩ := fs_rk_b s.toNat hin
  have b0' : 0 ≤ tk_rk N s W V := b0
  have b1' : tk_rk N s W V < tk_pr N s W := b1
  have h1 := fa_c1 (F := tk_F N s W R p) b0' hF
  have h2 := fs_cl (F := tk_F N s W R p) (show (tk_rk N s W V + 1).toNat ≤ (tk_pr N s W).toNat by omega)
  omega
theorem cx_98t {b : Bool} {A : Nat → Nat} {h0 : g_H} {d : Nat} {M : xa_M} {post : Option xa_V → xa_M → Prop} (h0n : (0 : Int) ≤ M 48 1) (h10 : 0 ≤ M 15 10 ∧ M 15 10 ≤ 14) (k : ∀ M1 : xa_M, (∀ (q : Nat) (j : Int), ¬ (q = 48 ∨ q = 49) → M1 q j = M q j) → (0 : Int) ≤ M1 48 1 → post none M1) : xa_C (xl_I b) A h0 (d + 3) 98 [(2, 15, 0, 0, 0), (2, 48, 0, 0, 0)] M post := by
  refine xa_meth (Q0 := (3, 0, false, 0, 0, 3)) (by decide +kernel) ⟨rfl, rfl⟩ (full := s_c_98) rfl rfl ?_
  intro hM hv Q hgo
  have loop : ∀ (f : Nat) (i : Int) (M1 : xa_M), 0 ≤ i ∧ i ≤ 14 → (∀ (q : Nat) (j : Int), ¬ (q = 48 ∨ q = 49) → M1 q j = M q j) → (0 : Int) ≤ M1 48 1 → 14 - i < (f : Int) → Q 2 [(2, (0, 0, 0, 14, i)), (0, (2, 15, 0, 0, 0)), (1, (2, 48, 0, 0, 0))] [] M1 := by
    intro f
    induction f with
    | zero => intro i M1 i1 hk hn hms; omega
    | succ f ih =>
      intro i M1 i1 hk hn hms
      have e10 := hk 15 10 (by decide)
      refine hgo.1 18 [2] 2 _ _ _ ?_
      refine And.intro ?_ ?_
      · intro (c1 : (M1 15 10) ≤ i)
        show post none M1
        exact k M1 hk hn
      · intro (c1 : i < (M1 15 10))
        show xa_C (xl_I b) A h0 _ 23 [(2, 25, 0, 0, 0), (0, 0, 0, 14, i)] M1 _
        refine cx_23_25 (show 0 ≤ i ∧ i < 14 by omega) ?_
        show xa_C (xl_I b) A h0 _ 60 [(2, 48, 0, 0, 0), (1, 0, (-2147483648), 2147483647, M1 25 i)] M1 _
        refine cx_60b (by omega) ?_
        intro M101 (i2 : ∀ (q : Nat) (j : Int), ¬ (q = 48 ∨ q = 49) → M101 q j = M1 q j) (i3 : (0 : Int) ≤ M101 48 1)
        show Q 2 [(2, (0, 0, 1, 15, i + 1)), (0, (2, 15, 0, 0, 0)), (1, (2, 48, 0, 0, 0))] [] M101
        refine hgo.2.1 2 _ [(2, (0, 0, 0, 14, i + 1)), (0, (2, 15, 0, 0, 0)), (1, (2, 48, 0, 0, 0))] _ _ (xa_subI rfl rfl (fun _ _ _ _ => by omega) (xa_subR rfl (xa_subR rfl (xa_sub0)))) ?_
        exact ih (i + 1) M101 (by omega) (fun q j hq => (i2 q j hq).trans (hk q j hq)) i3 (by omega)
  refine hgo.1 7 [2] 0 _ _ _ ?_
  show Q 2 [(2, (0, 0, 0, 0, 0)), (0, (2, 15, 0, 0, 0)), (1, (2, 48, 0, 0, 0))] [] M
  refine hgo.2.1 2 _ [(2, (0, 0, 0, 14, 0)), (0, (2, 15, 0, 0, 0)), (1, (2, 48, 0, 0, 0))] _ _ (xa_subI rfl rfl (fun _ _ _ _ => by omega) (xa_subR rfl (xa_subR rfl (xa_sub0)))) ?_
  exact loop 15 0 M (by omega) (fun _ _ _ => rfl) h0n (by omega)
theorem cx_85_50 {A : Nat → Nat} {h0 : g_H} {d : Nat} {M : xa_M} {post : Option xa_V → xa_M → Prop} {l1 u1 l2 u2 x1 x2 : Int} {F : Int → Int} {N : xa_M} (hT : tk_M N) (hR : tk_R M N) (hB : tk_B 50 M N) (hFF : 1 ≤ x1 ∧ x1 ≤ 9 → tk_Y N x1 F) (k : ∀ (lo hi r : Int) (M1 : xa_M), tf_85 N x1 x2 r → (∀ (q : Nat) (j : Int), ¬ (15 ≤ q ∧ q ≤ 27) → ¬ (q = 48 ∨ q = 49) → M1 q j = M q j) → post (some (0, 0, lo, hi, r)) M1) : xa_C (xl_I false) A h0 (d + 7) 85 [(2, 0, 0, 0, 0), (0, 0, l1, u1, x1), (0, 0, l2, u2, x2)] M post := by
  refine xa_C_arg [(2, 0, 0, 0, 0), (0, 0, (-2147483648), 2147483647, x1), (0, 0, (-2147483648), 2147483647, x2)] (xa_svR (xa_svI (fun _ _ _ _ => by omega) (xa_svI (fun _ _ _ _ => by omega) xa_sv0))) ?_
  refine xa_meth (Q0 := (5, 1, false, 0, 0, 11)) (by decide +kernel) ⟨rfl, rfl⟩ (full := s_c_85) rfl rfl ?_
  intro hM hv Q hgo
  have loop : ∀ (f : Nat) (i : Int) (M1 : xa_M), 0 ≤ i ∧ i ≤ 200000 → (0 : Int) ≤ M1 48 1 → (∀ (q : Nat) (j : Int), ¬ (15 ≤ q ∧ q ≤ 27) → ¬ (q = 48 ∨ q = 49) → M1 q j = M q j) → (∃ Ma : xa_M, tk_Z N x1 x2 Ma ∧ tk_S N x1 x2 0 (Ma 15 10) (Ma 21) (Ma 22) ∧ fa_K Ma M1 ∧ tk_st N x2 Ma M1 i ∧ i ≤ fs_c (tk_F N (Ma 15 10) (Ma 21) (Ma 22) x2) (tk_pr N (Ma 15 10) (Ma 21)).toNat) → 200000 - i < (f : Int) → Q 23 [(4, (0, 0, 0, 200000, i)), (0, (2, 0, 0, 0, 0))] [] M1 := by
    intro f
    induction f with
    | zero => intro i M1 i1 h48 hfr hE hms; clear hE; omega
    | succ f ih =>
      intro i M1 i1 h48 hfr hE hms
      obtain ⟨Ma, hZ, hS, hK, hst, hge⟩ := hE
      have hL1 := (tk_Zl hT hZ).1
      refine hgo.1 21 [23] 23 _ _ _ ?_
      refine And.intro ?_ ?_
      · intro (c1 : 200000 ≤ i)
        show post (some (0, 0, 0, 200000, i)) M1
        have ea := tk_all hT hZ hst (by omega)
        exact k _ _ i M1 ⟨0, _, _, _, hS, Or.inr ⟨rfl, by omega⟩⟩ hfr
      · intro (c1 : i < 200000)
        show xa_C (xl_I _) A h0 _ 91 [(2, 15, 0, 0, 0)] M1 _
        refine cx_91t hT hZ hK hst ?_ ?_
        · intro M101 (i2 : fa_K Ma M101) (i3 : tk_in N (Ma 15 10) (Ma 21) (M101 25)) (i4 : tk_F N (Ma 15 10) (Ma 21) (Ma 22) x2 (tk_rk N (Ma 15 10) (Ma 21) (M101 25))) (i5 : fs_c (tk_F N (Ma 15 10) (Ma 21) (Ma 22) x2) (tk_rk N (Ma 15 10) (Ma 21) (M101 25)).toNat = i) (i6 : tk_st N x2 Ma M101 (i + 1))
          have e48 : M101 48 1 = M1 48 1 := (i2 48 1 (by decide) (by decide) (by decide) (by omega)).trans (hK 48 1 (by decide) (by decide) (by decide) (by omega)).symm
          have e10 : M101 15 10 = Ma 15 10 := i2 15 10 (by decide) (by decide) (by decide) (by omega)
          refine And.intro ?_ ?_
          · intro (c7 : 1 = 0)
            exfalso
            omega
          · intro (c7 : ¬ 1 = 0)
            refine And.intro ?_ ?_
            · intro (c8 : ¬ i = 0)
              show Q 23 [(4, (0, 0, 1, 200001, i + 1)), (0, (2, 0, 0, 0, 0))] [] M101
              refine hgo.2.1 23 _ [(4, (0, 0, 0, 200000, i + 1)), (0, (2, 0, 0, 0, 0))] _ _ (xa_subI rfl rfl (fun _ _ _ _ => by omega) (xa_subR rfl (xa_sub0))) ?_
              exact ih (i + 1) M101 (by omega) (by omega) (fun q j h1 h2 => (i2 q j (by omega) (by omega) (by omega) (by omega)).trans ((hK q j (by omega) (by omega) (by omega) (by omega)).symm.trans (hfr q j h1 h2))) ⟨Ma, hZ, hS, i2, i6, tk_ge i3 i4 i5⟩ (by omega)
            · intro (c8 : i = 0)
              show xa_C (xl_I _) A h0 _ 98 [(2, 15, 0, 0, 0), (2, 48, 0, 0, 0)] M101 _
              refine cx_98t (by omega) (by omega) ?_
              intro M102 (i9 : ∀ (q : Nat) (j : Int), ¬ (q = 48 ∨ q = 49) → M102 q j = M101 q j) (i10 : (0 : Int) ≤ M102 48 1)
              show Q 23 [(4, (0, 0, 1, 200001, i + 1)), (0, (2, 0, 0, 0, 0))] [] M102
              refine hgo.2.1 23 _ [(4, (0, 0, 0, 200000, i + 1)), (0, (2, 0, 0, 0, 0))] _ _ (xa_subI rfl rfl (fun _ _ _ _ => by omega) (xa_subR rfl (xa_sub0))) ?_
              exact ih (i + 1) M102 (by omega) (by omega) (fun q j h1 h2 => (i9 q j h2).trans ((fun q j h1 h2 => (i2 q j (by omega) (by omega) (by omega) (by omega)).trans ((hK q j (by omega) (by omega) (by omega) (by omega)).symm.trans (hfr q j h1 h2))) q j h1 h2)) (tk_re hZ hS i2 i6 (tk_ge i3 i4 i5) i9) (by omega)
        · intro M101 (i11 : fa_K Ma M101) (i12 : fs_c (tk_F N (Ma 15 10) (Ma 21) (Ma 22) x2) (tk_pr N (Ma 15 10) (Ma 21)).toNat = i)
          have e48 : M101 48 1 = M1 48 1 := (i11 48 1 (by decide) (by decide) (by decide) (by omega)).trans (hK 48 1 (by decide) (by decide) (by decide) (by omega)).symm
          have e10 : M101 15 10 = Ma 15 10 := i11 15 10 (by decide) (by decide) (by decide) (by omega)
          refine And.intro ?_ ?_
          · intro (c13 : 0 = 0)
            show post (some (0, 0, 0, 200000, i)) M101
            exact k _ _ i _ ⟨0, _, _, _, hS, Or.inr ⟨rfl, i12.symm⟩⟩ (fun q j h1 h2 => (i11 q j (by omega) (by omega) (by omega) (by omega)).trans ((hK q j (by omega) (by omega) (by omega) (by omega)).symm.trans (hfr q j h1 h2)))
          · intro (c13 : ¬ 0 = 0)
            exfalso
            omega
  refine hgo.1 17 [23] 0 _ _ _ ?_
  show xa_C (xl_I _) A h0 _ 86 [(2, 0, 0, 0, 0), (0, 0, (-2147483648), 2147483647, x1), (0, 0, (-2147483648), 2147483647, x2)] M _
  refine cx_86_50 hT hR hB hFF ?_
  intro r104 M103 (i1 : tk_S N x1 x2 r104 (M103 15 10) (M103 21) (M103 22)) (i2 : r104 = 0 → tk_A N x2 M103) (i3 : ∀ q j, ¬ (15 ≤ q ∧ q ≤ 24) → M103 q j = M q j)
  refine And.intro ?_ ?_
  · intro (c4 : r104 = 0)
    show xa_C (xl_I _) A h0 _ 59 [(2, 48, 0, 0, 0)] M103 _
    refine cx_59_48 ?_
    show Q 23 [(4, (0, 0, 0, 0, 0)), (3, (0, 0, (-4), 0, r104)), (0, (2, 0, 0, 0, 0)), (1, (0, 0, (-2147483648), 2147483647, x1)), (2, (0, 0, (-2147483648), 2147483647, x2))] [] (xa_up M103 48 1 0)
    have er : r104 = 0 := by omega
    rw [er] at i1
    obtain ⟨z1, -, z3, z4⟩ := tk_S_L i1
    have hA := i2 er
    refine hgo.2.1 23 _ [(4, (0, 0, 0, 200000, 0)), (0, (2, 0, 0, 0, 0))] _ _ (xa_subI rfl rfl (fun _ _ _ _ => by omega) (xa_subR rfl (xa_sub0))) ?_
    exact loop 200001 0 (xa_up M103 48 1 0) (by omega) (by show (0 : Int) ≤ 0; omega) (fun q j h1 h2 => (xa_up_ne (by omega)).trans (i3 q j (by omega))) (tk_re (Ma := M103) (M1 := M103) ⟨z1, z3, z4, hA⟩ i1 fa_Kr (tk_st0 hA) (fs_cb _).1 (fun q j hq => xa_up_ne (by omega))) (by omega)
  · intro (c4 : ¬ r104 = 0)
    show post (some (0, 0, (-4), 0, r104)) M103
    exact k _ _ _ _ ⟨_, _, _, _, i1, Or.inl ⟨by omega, rfl⟩⟩ (fun q j h1 h2 => i3 q j (by omega))
theorem cx_85_55 {A : Nat → Nat} {h0 : g_H} {d : Nat} {M : xa_M} {post : Option xa_V → xa_M → Prop} {l1 u1 l2 u2 x1 x2 : Int} {F : Int → Int} {N : xa_M} (hT : tk_M N) (hR : tk_R M N) (hB : tk_B 55 M N) (hFF : 1 ≤ x1 ∧ x1 ≤ 9 → tk_Y N x1 F) (k : ∀ (lo hi r : Int) (M1 : xa_M), tf_85 N x1 x2 r → (∀ (q : Nat) (j : Int), ¬ (15 ≤ q ∧ q ≤ 27) → ¬ (q = 48 ∨ q = 49) → M1 q j = M q j) → post (some (0, 0, lo, hi, r)) M1) : xa_C (xl_I true) A h0 (d + 7) 85 [(2, 0, 0, 0, 0), (0, 0, l1, u1, x1), (0, 0, l2, u2, x2)] M post := by
  refine xa_C_arg [(2, 0, 0, 0, 0), (0, 0, (-2147483648), 2147483647, x1), (0, 0, (-2147483648), 2147483647, x2)] (xa_svR (xa_svI (fun _ _ _ _ => by omega) (xa_svI (fun _ _ _ _ => by omega) xa_sv0))) ?_
  refine xa_meth (Q0 := (5, 1, false, 0, 0, 11)) (by decide +kernel) ⟨rfl, rfl⟩ (full := s_c_85) rfl rfl ?_
  intro hM hv Q hgo
  have loop : ∀ (f : Nat) (i : Int) (M1 : xa_M), 0 ≤ i ∧ i ≤ 200000 → (0 : Int) ≤ M1 48 1 → (∀ (q : Nat) (j : Int), ¬ (15 ≤ q ∧ q ≤ 27) → ¬ (q = 48 ∨ q = 49) → M1 q j = M q j) → (∃ Ma : xa_M, tk_Z N x1 x2 Ma ∧ tk_S N x1 x2 0 (Ma 15 10) (Ma 21) (Ma 22) ∧ fa_K Ma M1 ∧ tk_st N x2 Ma M1 i ∧ i ≤ fs_c (tk_F N (Ma 15 10) (Ma 21) (Ma 22) x2) (tk_pr N (Ma 15 10) (Ma 21)).toNat) → 200000 - i < (f : Int) → Q 23 [(4, (0, 0, 0, 200000, i)), (0, (2, 0, 0, 0, 0))] [] M1 := by
    intro f
    induction f with
    | zero => intro i M1 i1 h48 hfr hE hms; clear hE; omega
    | succ f ih =>
      intro i M1 i1 h48 hfr hE hms
      obtain ⟨Ma, hZ, hS, hK, hst, hge⟩ := hE
      have hL1 := (tk_Zl hT hZ).1
      refine hgo.1 21 [23] 23 _ _ _ ?_
      refine And.intro ?_ ?_
      · intro (c1 : 200000 ≤ i)
        show post (some (0, 0, 0, 200000, i)) M1
        have ea := tk_all hT hZ hst (by omega)
        exact k _ _ i M1 ⟨0, _, _, _, hS, Or.inr ⟨rfl, by omega⟩⟩ hfr
      · intro (c1 : i < 200000)
        show xa_C (xl_I _) A h0 _ 91 [(2, 15, 0, 0, 0)] M1 _
        refine cx_91t hT hZ hK hst ?_ ?_
        · intro M101 (i2 : fa_K Ma M101) (i3 : tk_in N (Ma 15 10) (Ma 21) (M101 25)) (i4 : tk_F N (Ma 15 10) (Ma 21) (Ma 22) x2 (tk_rk N (Ma 15 10) (Ma 21) (M101 25))) (i5 : fs_c (tk_F N (Ma 15 10) (Ma 21) (Ma 22) x2) (tk_rk N (Ma 15 10) (Ma 21) (M101 25)).toNat = i) (i6 : tk_st N x2 Ma M101 (i + 1))
          have e48 : M101 48 1 = M1 48 1 := (i2 48 1 (by decide) (by decide) (by decide) (by omega)).trans (hK 48 1 (by decide) (by decide) (by decide) (by omega)).symm
          have e10 : M101 15 10 = Ma 15 10 := i2 15 10 (by decide) (by decide) (by decide) (by omega)
          refine And.intro ?_ ?_
          · intro (c7 : 1 = 0)
            exfalso
            omega
          · intro (c7 : ¬ 1 = 0)
            refine And.intro ?_ ?_
            · intro (c8 : ¬ i = 0)
              show Q 23 [(4, (0, 0, 1, 200001, i + 1)), (0, (2, 0, 0, 0, 0))] [] M101
              refine hgo.2.1 23 _ [(4, (0, 0, 0, 200000, i + 1)), (0, (2, 0, 0, 0, 0))] _ _ (xa_subI rfl rfl (fun _ _ _ _ => by omega) (xa_subR rfl (xa_sub0))) ?_
              exact ih (i + 1) M101 (by omega) (by omega) (fun q j h1 h2 => (i2 q j (by omega) (by omega) (by omega) (by omega)).trans ((hK q j (by omega) (by omega) (by omega) (by omega)).symm.trans (hfr q j h1 h2))) ⟨Ma, hZ, hS, i2, i6, tk_ge i3 i4 i5⟩ (by omega)
            · intro (c8 : i = 0)
              show xa_C (xl_I _) A h0 _ 98 [(2, 15, 0, 0, 0), (2, 48, 0, 0, 0)] M101 _
              refine cx_98t (by omega) (by omega) ?_
              intro M102 (i9 : ∀ (q : Nat) (j : Int), ¬ (q = 48 ∨ q = 49) → M102 q j = M101 q j) (i10 : (0 : Int) ≤ M102 48 1)
              show Q 23 [(4, (0, 0, 1, 200001, i + 1)), (0, (2, 0, 0, 0, 0))] [] M102
              refine hgo.2.1 23 _ [(4, (0, 0, 0, 200000, i + 1)), (0, (2, 0, 0, 0, 0))] _ _ (xa_subI rfl rfl (fun _ _ _ _ => by omega) (xa_subR rfl (xa_sub0))) ?_
              exact ih (i + 1) M102 (by omega) (by omega) (fun q j h1 h2 => (i9 q j h2).trans ((fun q j h1 h2 => (i2 q j (by omega) (by omega) (by omega) (by omega)).trans ((hK q j (by omega) (by omega) (by omega) (by omega)).symm.trans (hfr q j h1 h2))) q j h1 h2)) (tk_re hZ hS i2 i6 (tk_ge i3 i4 i5) i9) (by omega)
        · intro M101 (i11 : fa_K Ma M101) (i12 : fs_c (tk_F N (Ma 15 10) (Ma 21) (Ma 22) x2) (tk_pr N (Ma 15 10) (Ma 21)).toNat = i)
          have e48 : M101 48 1 = M1 48 1 := (i11 48 1 (by decide) (by decide) (by decide) (by omega)).trans (hK 48 1 (by decide) (by decide) (by decide) (by omega)).symm
          have e10 : M101 15 10 = Ma 15 10 := i11 15 10 (by decide) (by decide) (by decide) (by omega)
          refine And.intro ?_ ?_
          · intro (c13 : 0 = 0)
            show post (some (0, 0, 0, 200000, i)) M101
            exact k _ _ i _ ⟨0, _, _, _, hS, Or.inr ⟨rfl, i12.symm⟩⟩ (fun q j h1 h2 => (i11 q j (by omega) (by omega) (by omega) (by omega)).trans ((hK q j (by omega) (by omega) (by omega) (by omega)).symm.trans (hfr q j h1 h2)))
          · intro (c13 : ¬ 0 = 0)
            exfalso
            omega
  refine hgo.1 17 [23] 0 _ _ _ ?_
  show xa_C (xl_I _) A h0 _ 86 [(2, 0, 0, 0, 0), (0, 0, (-2147483648), 2147483647, x1), (0, 0, (-2147483648), 2147483647, x2)] M _
  refine cx_86_55 hT hR hB hFF ?_
  intro r104 M103 (i1 : tk_S N x1 x2 r104 (M103 15 10) (M103 21) (M103 22)) (i2 : r104 = 0 → tk_A N x2 M103) (i3 : ∀ q j, ¬ (15 ≤ q ∧ q ≤ 24) → M103 q j = M q j)
  refine And.intro ?_ ?_
  · intro (c4 : r104 = 0)
    show xa_C (xl_I _) A h0 _ 59 [(2, 48, 0, 0, 0)] M103 _
    refine cx_59_48 ?_
    show Q 23 [(4, (0, 0, 0, 0, 0)), (3, (0, 0, (-4), 0, r104)), (0, (2, 0, 0, 0, 0)), (1, (0, 0, (-2147483648), 2147483647, x1)), (2, (0, 0, (-2147483648), 2147483647, x2))] [] (xa_up M103 48 1 0)
    have er : r104 = 0 := by omega
    rw [er] at i1
    obtain ⟨z1, -, z3, z4⟩ := tk_S_L i1
    have hA := i2 er
    refine hgo.2.1 23 _ [(4, (0, 0, 0, 200000, 0)), (0, (2, 0, 0, 0, 0))] _ _ (xa_subI rfl rfl (fun _ _ _ _ => by omega) (xa_subR rfl (xa_sub0))) ?_
    exact loop 200001 0 (xa_up M103 48 1 0) (by omega) (by show (0 : Int) ≤ 0; omega) (fun q j h1 h2 => (xa_up_ne (by omega)).trans (i3 q j (by omega))) (tk_re (Ma := M103) (M1 := M103) ⟨z1, z3, z4, hA⟩ i1 fa_Kr (tk_st0 hA) (fs_cb _).1 (fun q j hq => xa_up_ne (by omega))) (by omega)
  · intro (c4 : ¬ r104 = 0)
    show post (some (0, 0, (-4), 0, r104)) M103
    exact k _ _ _ _ ⟨_, _, _, _, i1, Or.inl ⟨by omega, rfl⟩⟩ (fun q j h1 h2 => i3 q j (by omega))
theorem ms_fittingsF {A : Nat → Nat} {h0 : g_H} {d : Nat} {M : xa_M} {post : Option xa_V → xa_M → Prop} {l1 u1 l2 u2 : Int} {a x2 : Int} (hI : xm_Inv M) (k : ∀ (o : Option xa_V) (M1 : xa_M), (∃ lo hi n, o = some (0, 0, lo, hi, n) ∧ tf_85 M a x2 n) → xm_cor M M1 → post o M1) : xa_C xm_I A h0 (d + 4) 237 [(2, 60, 0, 0, 0), (0, 0, l1, u1, a), (0, 0, l2, u2, x2)] M post := by
  refine xa_C_arg [(2, 60, 0, 0, 0), (0, 0, (-2147483648), 2147483647, a), (0, 0, (-2147483648), 2147483647, x2)] (xa_svR (xa_svI (fun _ _ _ _ => by omega) (xa_svI (fun _ _ _ _ => by omega) xa_sv0))) ?_
  refine xa_meth (Q0 := (6, 1, false, 0, 0, 12)) (by decide +kernel) ⟨rfl, rfl⟩ (full := s_c_237) rfl rfl ?_
  intro hM hv Q hgo
  have hTM := tk_M_of hM hI
  have loop0 : ∀ (Mr : xa_M), xm_cor M Mr → tk_S M a x2 0 (Mr 60 32) (Mr 80) (Mr 81) → ∀ (n : Nat) (x4 : Int) (M1 : xa_M), 0 ≤ x4 ∧ x4 ≤ 200000 → xm_cor M M1 → 0 ≤ x2 → x2 < M 60 11 → xm_W M1 x4 → (x4 = 0 → M1 60 20 = 0) → fr_K Mr M1 → x4 = fs_c (fr_F Mr x2) (fr_r Mr M1).toNat → xm_rk M1 (M1 60 32).toNat < (n : Int) → Q 30 [(4, (0, 0, 0, 200000, x4)), (2, (0, 0, (-2147483648), 2147483647, x2)), (0, (2, 60, 0, 0, 0))] [] M1 := by
    intro Mr hcr hSr n
    obtain ⟨eF, ep, er, ei⟩ := fm_e hcr (p := x2)
    induction n with
    | zero => intro x4 M1 b4 hc p0 p1 hW h20 hK hx hms; exact absurd hms (by have := xm_W_rk hW; omega)
    | succ n ih0 =>
      intro x4 M1 b4 hc p0 p1 hW h20 hK hx hms0
      refine hgo.2.2 _ _ _ _ (fun hM1 _ => ?_)
      have e11 := xm_corf hc 11 (by omega)
      have b32 := xm_f32 hM1
      have hrk := (xm_rkb hW.2.1 (M1 60 32).toNat (by omega)).1
      have hWs := hW.2.2.2
      obtain ⟨e, he⟩ : ∃ e, e = xm_rk M1 (M1 60 32).toNat := ⟨_, rfl⟩
      have loop1 : ∀ (n : Nat) (x5 x4 : Int) (M1 : xa_M), 0 ≤ x5 ∧ x5 ≤ 14 → 0 ≤ x4 ∧ x4 ≤ 200000 → xm_cor M M1 → 0 ≤ x2 → x2 < M 60 11 → xm_W M1 x4 → xm_rk M1 (M1 60 32).toNat = e → (x4 = 0 → M1 60 20 ≤ x5) → fr_F Mr x2 (fr_r Mr M1) → fr_K Mr M1 → x4 = fs_c (fr_F Mr x2) (fr_r Mr M1).toNat → 14 - x5 < (n : Int) → Q 44 [(5, (0, 0, 0, 14, x5)), (4, (0, 0, 0, 200000, x4)), (2, (0, 0, (-2147483648), 2147483647, x2)), (0, (2, 60, 0, 0, 0))] [] M1 := by
        intro n
        induction n with
        | zero => intro x5 x4 M1 b5 b4 hc p0 p1 hW hrke h20 hf hK hx hms; clear hf hx; omega
        | succ n ih1 =>
          intro x5 x4 M1 b5 b4 hc p0 p1 hW hrke h20 hf hK hx hms1
          refine hgo.2.2 _ _ _ _ (fun hM1 _ => ?_)
          have e11 := xm_corf hc 11 (by omega)
          have b32 := xm_f32 hM1
          have hrk := (xm_rkb hW.2.1 (M1 60 32).toNat (by omega)).1
          have hWs := hW.2.2.2
          have b20 := xm_f20 hM1
          have hr0 := fr_r0 hK hW.2.1
          have hn1 : x4 + 1 = fs_c (fr_F Mr x2) (fr_r Mr M1 + 1).toNat := by rw [fa_c1 hr0.1 hf, ← hx]
          refine hgo.1 20 [30, 44] 44 _ _ _ ?_
          refine And.intro ?_ ?_
          · intro (c1 : (M1 60 32) ≤ x5)
            show xa_C xm_I A h0 _ 243 [(2, 60, 0, 0, 0)] M1 _
            refine xa_C_mok (fr_nextW hK hW (fun v2 M2 z2 hc2 e2 wN2 rk2 hK2 n2 l2 hM2 => ?_))
            refine And.intro ?_ ?_
            · intro (c3 : ¬ v2 = 0)
              show Q 30 [(4, (0, 0, 1, 200001, x4 + 1)), (5, (0, 0, 0, 14, x5)), (2, (0, 0, (-2147483648), 2147483647, x2)), (0, (2, 60, 0, 0, 0))] [] M2
              refine hgo.2.1 30 _ [(4, (0, 0, 0, 200000, x4 + 1)), (2, (0, 0, (-2147483648), 2147483647, x2)), (0, (2, 60, 0, 0, 0))] _ _ (xa_subI rfl rfl (fun _ _ _ _ => by omega) (xa_subI rfl rfl (fun _ _ _ _ => by omega) (xa_subR rfl xa_sub0))) ?_
              exact ih0 (x4 + 1) M2 (by omega) (xm_cor_t hc hc2) (by omega) (by omega) (wN2 _ (by omega) (by omega)) (by first | omega | (simp [xa_up]; done) | (simp [xa_up]; omega)) hK2 (by rw [n2 (by omega)]; exact hn1) (by omega)
            · intro (c3 : v2 = 0)
              show post (some (0, 0, 1, 200001, x4 + 1)) M2
              exact k _ _ ⟨_, _, _, rfl, 0, Mr 60 32, Mr 80, Mr 81, hSr, Or.inr ⟨rfl, by rw [← eF, ← ep, ← l2 (by omega), ← hn1]⟩⟩ (xm_cor_t hc hc2)
          · intro (c1 : x5 < (M1 60 32))
            refine And.intro ?_ ?_
            · intro (c4 : ¬ x4 = 0)
              show xa_C xm_I A h0 _ 243 [(2, 60, 0, 0, 0)] M1 _
              refine xa_C_mok (fr_nextW hK hW (fun v5 M5 z5 hc5 e5 wN5 rk5 hK5 n5 l5 hM5 => ?_))
              refine And.intro ?_ ?_
              · intro (c6 : ¬ v5 = 0)
                show Q 30 [(4, (0, 0, 1, 200001, x4 + 1)), (5, (0, 0, 0, 14, x5)), (2, (0, 0, (-2147483648), 2147483647, x2)), (0, (2, 60, 0, 0, 0))] [] M5
                refine hgo.2.1 30 _ [(4, (0, 0, 0, 200000, x4 + 1)), (2, (0, 0, (-2147483648), 2147483647, x2)), (0, (2, 60, 0, 0, 0))] _ _ (xa_subI rfl rfl (fun _ _ _ _ => by omega) (xa_subI rfl rfl (fun _ _ _ _ => by omega) (xa_subR rfl xa_sub0))) ?_
                exact ih0 (x4 + 1) M5 (by omega) (xm_cor_t hc hc5) (by omega) (by omega) (wN5 _ (by omega) (by omega)) (by first | omega | (simp [xa_up]; done) | (simp [xa_up]; omega)) hK5 (by rw [n5 (by omega)]; exact hn1) (by omega)
              · intro (c6 : v5 = 0)
                show post (some (0, 0, 1, 200001, x4 + 1)) M5
                exact k _ _ ⟨_, _, _, rfl, 0, Mr 60 32, Mr 80, Mr 81, hSr, Or.inr ⟨rfl, by rw [← eF, ← ep, ← l5 (by omega), ← hn1]⟩⟩ (xm_cor_t hc hc5)
            · intro (c4 : x4 = 0)
              refine And.intro (show 0 ≤ x5 ∧ x5 < 14 by omega) ?_
              show xa_C xm_I A h0 _ 231 [(2, 60, 0, 0, 0), (1, 0, 0, 400, M1 84 x5)] M1 _
              refine ct_tell (n := M1 60 20) (by first | rfl | (simp [xa_up]; done) | omega) (by omega) (by omega) ?_
              show Q 44 [(5, (0, 0, 1, 15, x5 + 1)), (4, (0, 0, 0, 200000, x4)), (2, (0, 0, (-2147483648), 2147483647, x2)), (0, (2, 60, 0, 0, 0))] [] (xa_up (xa_up M1 74 (M1 60 20) (M1 84 x5)) 60 20 ((M1 60 20) + 1))
              refine hgo.2.1 44 _ [(5, (0, 0, 0, 14, x5 + 1)), (4, (0, 0, 0, 200000, x4)), (2, (0, 0, (-2147483648), 2147483647, x2)), (0, (2, 60, 0, 0, 0))] _ _ (xa_subI rfl rfl (fun _ _ _ _ => by omega) (xa_subI rfl rfl (fun _ _ _ _ => by omega) (xa_subI rfl rfl (fun _ _ _ _ => by omega) (xa_subR rfl xa_sub0)))) ?_
              have e84 : (xa_up (xa_up M1 74 (M1 60 20) (M1 84 x5)) 60 20 ((M1 60 20) + 1)) 84 = M1 84 := funext (fun j => (xa_up_ne (by omega)).trans (xa_up_ne (by omega)))
              have er2 : fr_r Mr (xa_up (xa_up M1 74 (M1 60 20) (M1 84 x5)) 60 20 ((M1 60 20) + 1)) = fr_r Mr M1 := by
                unfold fr_r
                rw [e84]
              exact ih1 (x5 + 1) x4 (xa_up (xa_up M1 74 (M1 60 20) (M1 84 x5)) 60 20 ((M1 60 20) + 1)) (by omega) (by omega) (xm_cor_f (by omega) (xm_cor_a rfl hc)) (by omega) (by omega) (xm_86_W (xm_86_s (by omega)) (xm_86_W (xm_86_s (by omega)) hW).1).1 ((xm_86_W (xm_86_s (by omega)) (xm_86_W (xm_86_s (by omega)) hW).1).2.trans ((xm_86_W (xm_86_s (by omega)) hW).2.trans hrke)) (by first | omega | (simp [xa_up]; done) | (simp [xa_up]; omega)) (by rw [er2]; exact hf) (fun q j h1 h2 => (xa_up_ne (by omega)).trans ((xa_up_ne (by omega)).trans (hK q j h1 h2))) (by rw [er2]; exact hx) (by omega)
      refine hgo.1 14 [30, 44] 30 _ _ _ ?_
      show xa_C xm_I A h0 _ 242 [(2, 60, 0, 0, 0), (0, 0, (-2147483648), 2147483647, x2)] M1 _
      refine xa_C_mok (fr_isF hK (xm_Inv_cor hc hI) hW (by omega) (by omega) (fun v1 M1 z1 q1 hc1 e1 wF1 rk1 hK er1 hM1 => ?_))
      rw [← er1] at q1 hx
      have hr0 := fr_r0 hK wF1.2.1
      refine And.intro ?_ ?_
      · intro (c2 : ¬ v1 = 0)
        show Q 44 [(5, (0, 0, 0, 0, 0)), (4, (0, 0, 0, 200000, x4)), (2, (0, 0, (-2147483648), 2147483647, x2)), (0, (2, 60, 0, 0, 0))] [] M1
        refine hgo.2.1 44 _ [(5, (0, 0, 0, 14, 0)), (4, (0, 0, 0, 200000, x4)), (2, (0, 0, (-2147483648), 2147483647, x2)), (0, (2, 60, 0, 0, 0))] _ _ (xa_subI rfl rfl (fun _ _ _ _ => by omega) (xa_subI rfl rfl (fun _ _ _ _ => by omega) (xa_subI rfl rfl (fun _ _ _ _ => by omega) (xa_subR rfl xa_sub0)))) ?_
        exact loop1 15 0 x4 M1 (by omega) (by omega) (xm_cor_t hc hc1) (by omega) (by omega) wF1 (by omega) (by first | omega | (simp [xa_up]; done) | (simp [xa_up]; omega)) (q1.mp (by omega)) hK hx (by omega)
      · intro (c2 : v1 = 0)
        have hn0 : x4 = fs_c (fr_F Mr x2) (fr_r Mr M1 + 1).toNat := by rw [fa_c0 hr0.1 (fun h => by have := q1.mpr h; omega), ← hx]
        show xa_C xm_I A h0 _ 243 [(2, 60, 0, 0, 0)] M1 _
        refine xa_C_mok (fr_nextW hK wF1 (fun v3 M3 z3 hc3 e3 wN3 rk3 hK3 n3 l3 hM3 => ?_))
        refine And.intro ?_ ?_
        · intro (c4 : ¬ v3 = 0)
          show Q 30 [(4, (0, 0, 0, 200000, x4)), (2, (0, 0, (-2147483648), 2147483647, x2)), (0, (2, 60, 0, 0, 0))] [] M3
          refine hgo.2.1 30 _ [(4, (0, 0, 0, 200000, x4)), (2, (0, 0, (-2147483648), 2147483647, x2)), (0, (2, 60, 0, 0, 0))] _ _ (xa_subI rfl rfl (fun _ _ _ _ => by omega) (xa_subI rfl rfl (fun _ _ _ _ => by omega) (xa_subR rfl xa_sub0))) ?_
          exact ih0 x4 M3 (by omega) (xm_cor_t (xm_cor_t hc hc1) hc3) (by omega) (by omega) (wN3 _ (by omega) (by omega)) (by first | omega | (simp [xa_up]; done) | (simp [xa_up]; omega)) hK3 (by rw [n3 (by omega)]; exact hn0) (by omega)
        · intro (c4 : v3 = 0)
          show post (some (0, 0, 0, 200000, x4)) M3
          exact k _ _ ⟨_, _, _, rfl, 0, Mr 60 32, Mr 80, Mr 81, hSr, Or.inr ⟨rfl, by rw [← eF, ← ep, ← l3 (by omega), ← hn0]⟩⟩ (xm_cor_t (xm_cor_t hc hc1) hc3)
  refine hgo.1 22 [30, 44] 0 _ _ _ ?_
  show xa_C xm_I A h0 _ 238 [(2, 60, 0, 0, 0), (0, 0, (-2147483648), 2147483647, a), (0, 0, (-2147483648), 2147483647, x2)] (xa_up M 60 21 0) _
  refine xa_C_mok (ct_readyF (xm_Inv_cor (xm_cor_f (by omega) xm_cor_r) hI) (fun v1 M1 z1 hc1 hr1 hq1 hM1 => ?_))
  have hS := rd_S hTM (xm_cor_f (by omega) xm_cor_r) hc1 hM1 hq1
  refine And.intro ?_ ?_
  · intro (c2 : 0 ≤ v1)
    show xa_C xm_I A h0 _ 241 [(2, 60, 0, 0, 0)] (xa_up M1 60 20 0) _
    refine xa_C_mok (fm_firstW (xm_Inv_cor (xm_cor_f (by omega) (xm_cor_t (xm_cor_f (by omega) xm_cor_r) hc1)) hI) (xm_86_Y (xm_86_s (by omega)) ⟨(hr1 (by omega)).1, (hr1 (by omega)).2.1⟩) (fun M3 hc3 e3 wA3 hK3 hr3 hM3 => ?_))
    have w2 := wA3.2.2.2
    have q11 : 0 ≤ x2 ∧ x2 < M 60 11 := by
      have q := (hr1 (by omega)).2.2
      simpa [xa_up] using q
    have e20 : M3 60 20 = 0 := by
      rw [e3]
      simp [xa_up]
    show Q 30 [(4, (0, 0, 0, 0, 0)), (3, (0, 0, (-4), 0, v1)), (0, (2, 60, 0, 0, 0)), (1, (0, 0, (-2147483648), 2147483647, a)), (2, (0, 0, (-2147483648), 2147483647, x2))] [] M3
    refine hgo.2.1 30 _ [(4, (0, 0, 0, 200000, 0)), (2, (0, 0, (-2147483648), 2147483647, x2)), (0, (2, 60, 0, 0, 0))] _ _ (xa_subI rfl rfl (fun _ _ _ _ => by omega) (xa_subI rfl rfl (fun _ _ _ _ => by omega) (xa_subR rfl xa_sub0))) ?_
    have v0 : v1 = 0 := by omega
    rw [v0] at hS
    have c32 : (xa_up M1 60 20 0) 60 32 = M1 60 32 := xa_up_ne (by omega)
    have c80 : (xa_up M1 60 20 0) 80 = M1 80 := funext (fun j => xa_up_ne (by omega))
    have c81 : (xa_up M1 60 20 0) 81 = M1 81 := funext (fun j => xa_up_ne (by omega))
    exact loop0 (xa_up M1 60 20 0) (xm_cor_f (by omega) (xm_cor_t (xm_cor_f (by omega) xm_cor_r) hc1)) (by rw [c32, c80, c81]; exact hS) 200000 0 M3 (by omega) (xm_cor_t (xm_cor_f (by omega) (xm_cor_t (xm_cor_f (by omega) xm_cor_r) hc1)) hc3) (by omega) (by omega) wA3 (by first | omega | (simp [xa_up]; done) | (simp [xa_up]; omega)) hK3 (by rw [hr3]; rfl) (by omega)
  · intro (c2 : v1 < 0)
    show post (some (0, 0, (-4), 0, v1)) M1
    exact k _ _ ⟨_, _, _, rfl, v1, _, _, _, hS, Or.inl ⟨by omega, rfl⟩⟩ (xm_cor_t (xm_cor_f (by omega) xm_cor_r) hc1)

-- sure, on both sides
set_option maxRecDepth 20000
/-- other cells than those of the search have become other -/
theorem tk_r2 {N M1 M2 Ma : xa_M} {X p i : Int} (hZ : tk_Z N X p Ma) (hK : fa_K Ma M1) (hst : tk_st N p Ma M1 i) (e : ∀ (q : Nat) (j : Int), ¬ (q = 28 ∨ q = 29) → M2 q j = M1 q j) : ∃ Ma' : xa_M, tk_Z N X p Ma' ∧ fa_K Ma' M2 ∧ tk_st N p Ma' M2 i ∧ Ma' 15 10 = Ma 15 10 ∧ Ma' 21 = Ma 21 ∧ Ma' 22 = Ma 22 := by
  obtain ⟨Ma', hm⟩ : ∃ Ma' : xa_M, ∀ (q : Nat) (j : Int), Ma' q j = if q = 28 ∨ q = 29 then M2 q j else Ma q j := ⟨fun q j => if q = 28 ∨ q = 29 then M2 q j else Ma q j, fun _ _ => rfl⟩
  have hn : ∀ q, ¬ (q = 28 ∨ q = 29) → Ma' q = Ma q := fun q hq => funext (fun j => (hm q j).trans (if_neg hq))
  have hn2 : ∀ q, ¬ (q = 28 ∨ q = 29) → M2 q = M1 q := fun q hq => funext (fun j => e q j hq)
  have e15 := hn 15 (by decide)
  have e21 := hn 21 (by decide)
  have e22 := hn 22 (by decide)
  have e23 := hn 23 (by decide)
  have e24 := hn 24 (by decide)
  have f15 := hn2 15 (by decide)
  have f22 := hn2 22 (by decide)
  have f25 := hn2 25 (by decide)
  have f26 := hn2 26 (by decide)
  have f27 := hn2 27 (by decide)
  refine ⟨Ma', ?_, fun q j a b c d => ?_, ?_, by rw [e15], e21, e22⟩
  · unfold tk_Z tk_A
    rw [e15, e21, e22, e23, e24]
    exact hZ
  · by_cases hq : q = 28 ∨ q = 29
    · rw [hm q j, if_pos hq]
    · rw [hm q j, if_neg hq, e q j hq]
      exact hK q j a b c d
  · unfold tk_st fa_S fb_P at hst ⊢
    rw [e15, e21, e22, e23, e24, f15, f22, f25, f26, f27]
    exact hst
/-- what sure answers -/
def tf_101 (N : xa_M) (X p w r : Int) : Prop := ∃ (e s : Int) (W R : Int → Int), tk_S N X p e s W R ∧ ((¬ (e = 0 ∨ e = -4) ∧ r = e) ∨ ((e = 0 ∨ e = -4) ∧ (((∀ i, 0 ≤ i → i < s → ¬ W i = w) ∧ r = -1) ∨ ((∃ i, 0 ≤ i ∧ i < s ∧ W i = w) ∧ ((e = -4 ∧ r = -4) ∨ (e = 0 ∧ ((fs_c (tk_F N s W R p) (tk_pr N s W).toNat = 0 ∧ r = -2) ∨ (1 ≤ fs_c (tk_F N s W R p) (tk_pr N s W).toNat ∧ r = 0))))))))
theorem tf_101_one {N : xa_M} {X p w r r' : Int} (hM : tk_M N) (h : tf_101 N X p w r) (h' : tf_101 N X p w r') : r = r' := by
  obtain ⟨e, s, W, R, hS, h1⟩ := h
  obtain ⟨e', s', W', R', hS', h2⟩ := h'
  obtain ⟨ee, k⟩ := tk_S_one hM hS hS'
  subst ee
  rcases h1 with ⟨a1, a2⟩ | ⟨a1, a2⟩
  · rcases h2 with ⟨-, b2⟩ | ⟨b1, -⟩
    · omega
    · exact absurd b1 a1
  · rcases h2 with ⟨b1, -⟩ | ⟨-, b2⟩
    · exact absurd a1 b1
    · obtain ⟨rfl, k2⟩ := k a1
      obtain ⟨k3, k4, -, -⟩ := tk_e (M := N) k2
      rw [k3 p, k4] at b2
      rcases a2 with ⟨c1, c2⟩ | ⟨⟨i, i0, i1, i2⟩, c2⟩
      · rcases b2 with ⟨-, d2⟩ | ⟨⟨i, i0, i1, i2⟩, -⟩
        · omega
        · rw [(k2 i i0 i1).1] at i2
          exact absurd i2 (c1 i i0 i1)
      · rcases b2 with ⟨d1, -⟩ | ⟨-, d2⟩
        · exact absurd ((k2 i i0 i1).1.trans i2) (d1 i i0 i1)
        · omega
theorem cx_102t {b : Bool} {A : Nat → Nat} {h0 : g_H} {d : Nat} {M : xa_M} {post : Option xa_V → xa_M → Prop} {l1 u1 x1 : Int} (h10 : 0 ≤ M 15 10 ∧ M 15 10 ≤ 14) (k : ∀ r : Int, (r = -1 ∧ ∀ i, 0 ≤ i → i < M 15 10 → ¬ M 21 i = x1) ∨ (0 ≤ r ∧ r < M 15 10 ∧ M 21 r = x1) → post (some (0, 0, (-1), 13, r)) M) : xa_C (xl_I b) A h0 (d + 2) 102 [(2, 15, 0, 0, 0), (0, 0, l1, u1, x1)] M post := by
  refine xa_C_wk ?_
  refine xa_C_arg [(2, 15, 0, 0, 0), (0, 0, (-2147483648), 2147483647, x1)] (xa_svR (xa_svI (fun _ _ _ _ => by omega) xa_sv0)) ?_
  refine xa_meth (Q0 := (3, 1, false, 0, 0, 3)) (by decide +kernel) ⟨rfl, rfl⟩ (full := s_c_102) rfl rfl ?_
  intro hM hv Q hgo
  have loop : ∀ (f : Nat) (i : Int), 0 ≤ i ∧ i ≤ 14 → (∀ j, 0 ≤ j → j < i → ¬ M 21 j = x1) → 14 - i < (f : Int) → Q 2 [(2, (0, 0, 0, 14, i)), (0, (2, 15, 0, 0, 0)), (1, (0, 0, (-2147483648), 2147483647, x1))] [] M := by
    intro f
    induction f with
    | zero => intro i i1 hn hms; clear hn; omega
    | succ f ih =>
      intro i i1 hn hms
      refine hgo.1 17 [2] 2 _ _ _ ?_
      refine And.intro ?_ ?_
      · intro (c1 : (M 15 10) ≤ i)
        show xa_wk post (some (0, 0, (-1), (-1), (-1))) M
        exact xa_wkI _ rfl (fun _ _ => by omega) (k (-1) (Or.inl ⟨rfl, fun j j0 j1 => hn j j0 (by omega)⟩))
      · intro (c1 : i < (M 15 10))
        show xa_C (xl_I b) A h0 _ 23 [(2, 21, 0, 0, 0), (0, 0, 0, 14, i)] M _
        refine cx_23_21 (show 0 ≤ i ∧ i < 14 by omega) ?_
        refine And.intro ?_ ?_
        · intro (c2 : ¬ (M 21 i) = x1)
          show Q 2 [(2, (0, 0, 1, 15, i + 1)), (0, (2, 15, 0, 0, 0)), (1, (0, 0, (-2147483648), 2147483647, x1))] [] M
          refine hgo.2.1 2 _ [(2, (0, 0, 0, 14, i + 1)), (0, (2, 15, 0, 0, 0)), (1, (0, 0, (-2147483648), 2147483647, x1))] _ _ (xa_subI rfl rfl (fun _ _ _ _ => by omega) (xa_subR rfl (xa_subI rfl rfl (fun _ _ _ _ => by omega) (xa_sub0)))) ?_
          exact ih (i + 1) (by omega) (fun j j0 j1 => by
            by_cases e : j = i
            · rw [e]
              omega
            · exact hn j j0 (by omega)) (by omega)
        · intro (c2 : (M 21 i) = x1)
          show xa_wk post (some (0, 0, 0, 14, i)) M
          exact xa_wkI _ rfl (fun _ _ => by omega) (k i (Or.inr ⟨i1.1, by omega, by omega⟩))
  refine hgo.1 7 [2] 0 _ _ _ ?_
  show Q 2 [(2, (0, 0, 0, 0, 0)), (0, (2, 15, 0, 0, 0)), (1, (0, 0, (-2147483648), 2147483647, x1))] [] M
  refine hgo.2.1 2 _ [(2, (0, 0, 0, 14, 0)), (0, (2, 15, 0, 0, 0)), (1, (0, 0, (-2147483648), 2147483647, x1))] _ _ (xa_subI rfl rfl (fun _ _ _ _ => by omega) (xa_subR rfl (xa_subI rfl rfl (fun _ _ _ _ => by omega) (xa_sub0)))) ?_
  exact loop 15 0 (by omega) (fun j j0 j1 => by omega) (by omega)
theorem cx_23w_28 {b : Bool} {A : Nat → Nat} {h0 : g_H} {d : Nat} {M : xa_M} {post : Option xa_V → xa_M → Prop} {l1 u1 i : Int} (k : ∀ r : Int, post (some (0, 0, (-2147483648), 2147483647, r)) M) : xa_C (xl_I b) A h0 (d + 1) 23 [(2, 28, 0, 0, 0), (0, 0, l1, u1, i)] M post := by
  refine xa_C_wk ?_
  refine xa_C_arg [(2, 28, 0, 0, 0), (0, 0, (-2147483648), 2147483647, i)] (xa_svR (xa_svI (fun _ _ _ _ => by omega) xa_sv0)) ?_
  refine xa_meth (Q0 := (2, 1, false, 0, 0, 11)) (by decide +kernel) ⟨rfl, rfl⟩ (full := s_c_23) rfl rfl ?_
  intro hM hv Q hgo
  refine hgo.1 15 [] 0 _ _ _ ?_
  refine And.intro ?_ ?_
  · intro (c1 : i < 0)
    show xa_wk post (some (0, 0, 0, 0, 0)) M
    exact xa_wkI _ rfl (fun _ _ => by omega) (k _)
  · intro (c1 : 0 ≤ i)
    refine And.intro ?_ ?_
    · intro (c2 : 800 ≤ i)
      show xa_wk post (some (0, 0, 0, 0, 0)) M
      exact xa_wkI _ rfl (fun _ _ => by omega) (k _)
    · intro (c2 : i < 800)
      refine And.intro (show 0 ≤ i ∧ i < 800 by omega) ?_
      show xa_wk post (some (0, 0, (-2147483648), 2147483647, M 28 i)) M
      exact xa_wkI _ rfl (fun _ _ => by omega) (k _)
theorem cx_18w_28 {b : Bool} {A : Nat → Nat} {h0 : g_H} {d : Nat} {M : xa_M} {post : Option xa_V → xa_M → Prop} {l1 u1 l2 u2 i v : Int} (k : ∀ M1 : xa_M, (∀ (q : Nat) (j : Int), ¬ q = 28 → M1 q j = M q j) → post none M1) : xa_C (xl_I b) A h0 (d + 1) 18 [(2, 28, 0, 0, 0), (0, 0, l1, u1, i), (0, 0, l2, u2, v)] M post := by
  refine xa_C_arg [(2, 28, 0, 0, 0), (0, 0, (-2147483648), 2147483647, i), (0, 0, (-2147483648), 2147483647, v)] (xa_svR (xa_svI (fun _ _ _ _ => by omega) (xa_svI (fun _ _ _ _ => by omega) xa_sv0))) ?_
  refine xa_meth (Q0 := (3, 0, false, 0, 0, 11)) (by decide +kernel) ⟨rfl, rfl⟩ (full := s_c_18) rfl rfl ?_
  intro hM hv Q hgo
  refine hgo.1 15 [] 0 _ _ _ ?_
  refine And.intro ?_ ?_
  · intro (c1 : i < 0)
    show post none M
    exact k _ (fun _ _ _ => rfl)
  · intro (c1 : 0 ≤ i)
    refine And.intro ?_ ?_
    · intro (c2 : 800 ≤ i)
      show post none M
      exact k _ (fun _ _ _ => rfl)
    · intro (c2 : i < 800)
      refine And.intro (show 0 ≤ i ∧ i < 800 by omega) ?_
      show post none (xa_up M 28 i v)
      exact k _ (fun q j hq => xa_up_ne (fun e => hq e.1))
theorem cx_23w_29 {b : Bool} {A : Nat → Nat} {h0 : g_H} {d : Nat} {M : xa_M} {post : Option xa_V → xa_M → Prop} {l1 u1 i : Int} (k : ∀ r : Int, post (some (0, 0, (-2147483648), 2147483647, r)) M) : xa_C (xl_I b) A h0 (d + 1) 23 [(2, 29, 0, 0, 0), (0, 0, l1, u1, i)] M post := by
  refine xa_C_wk ?_
  refine xa_C_arg [(2, 29, 0, 0, 0), (0, 0, (-2147483648), 2147483647, i)] (xa_svR (xa_svI (fun _ _ _ _ => by omega) xa_sv0)) ?_
  refine xa_meth (Q0 := (2, 1, false, 0, 0, 11)) (by decide +kernel) ⟨rfl, rfl⟩ (full := s_c_23) rfl rfl ?_
  intro hM hv Q hgo
  refine hgo.1 15 [] 0 _ _ _ ?_
  refine And.intro ?_ ?_
  · intro (c1 : i < 0)
    show xa_wk post (some (0, 0, 0, 0, 0)) M
    exact xa_wkI _ rfl (fun _ _ => by omega) (k _)
  · intro (c1 : 0 ≤ i)
    refine And.intro ?_ ?_
    · intro (c2 : 14 ≤ i)
      show xa_wk post (some (0, 0, 0, 0, 0)) M
      exact xa_wkI _ rfl (fun _ _ => by omega) (k _)
    · intro (c2 : i < 14)
      refine And.intro (show 0 ≤ i ∧ i < 14 by omega) ?_
      show xa_wk post (some (0, 0, (-2147483648), 2147483647, M 29 i)) M
      exact xa_wkI _ rfl (fun _ _ => by omega) (k _)
theorem cx_18w_29 {b : Bool} {A : Nat → Nat} {h0 : g_H} {d : Nat} {M : xa_M} {post : Option xa_V → xa_M → Prop} {l1 u1 l2 u2 i v : Int} (k : ∀ M1 : xa_M, (∀ (q : Nat) (j : Int), ¬ q = 29 → M1 q j = M q j) → post none M1) : xa_C (xl_I b) A h0 (d + 1) 18 [(2, 29, 0, 0, 0), (0, 0, l1, u1, i), (0, 0, l2, u2, v)] M post := by
  refine xa_C_arg [(2, 29, 0, 0, 0), (0, 0, (-2147483648), 2147483647, i), (0, 0, (-2147483648), 2147483647, v)] (xa_svR (xa_svI (fun _ _ _ _ => by omega) (xa_svI (fun _ _ _ _ => by omega) xa_sv0))) ?_
  refine xa_meth (Q0 := (3, 0, false, 0, 0, 11)) (by decide +kernel) ⟨rfl, rfl⟩ (full := s_c_18) rfl rfl ?_
  intro hM hv Q hgo
  refine hgo.1 15 [] 0 _ _ _ ?_
  refine And.intro ?_ ?_
  · intro (c1 : i < 0)
    show post none M
    exact k _ (fun _ _ _ => rfl)
  · intro (c1 : 0 ≤ i)
    refine And.intro ?_ ?_
    · intro (c2 : 14 ≤ i)
      show post none M
      exact k _ (fun _ _ _ => rfl)
    · intro (c2 : i < 14)
      refine And.intro (show 0 ≤ i ∧ i < 14 by omega) ?_
      show post none (xa_up M 29 i v)
      exact k _ (fun q j hq => xa_up_ne (fun e => hq e.1))
theorem cx_77q {b : Bool} {A : Nat → Nat} {h0 : g_H} {d : Nat} {M : xa_M} {post : Option xa_V → xa_M → Prop} {l1 u1 x1 : Int} (k : ∀ M1 : xa_M, (∀ (q : Nat) (j : Int), ¬ q = 28 → M1 q j = M q j) → post none M1) : xa_C (xl_I b) A h0 (d + 1) 77 [(2, 28, 0, 0, 0), (0, 0, l1, u1, x1)] M post := by
  refine xa_C_arg [(2, 28, 0, 0, 0), (0, 0, (-2147483648), 2147483647, x1)] (xa_svR (xa_svI (fun _ _ _ _ => by omega) xa_sv0)) ?_
  refine xa_meth (Q0 := (3, 0, false, 0, 0, 11)) (by decide +kernel) ⟨rfl, rfl⟩ (full := s_c_77) rfl rfl ?_
  intro hM hv Q hgo
  have loop : ∀ (f : Nat) (i : Int) (M1 : xa_M), 0 ≤ i ∧ i ≤ 800 → (∀ (q : Nat) (j : Int), ¬ q = 28 → M1 q j = M q j) → 800 - i < (f : Int) → Q 2 [(2, (0, 0, 0, 800, i)), (0, (2, 28, 0, 0, 0)), (1, (0, 0, (-2147483648), 2147483647, x1))] [] M1 := by
    intro f
    induction f with
    | zero => intro i M1 i1 hk hms; omega
    | succ f ih =>
      intro i M1 i1 hk hms
      refine hgo.1 15 [2] 2 _ _ _ ?_
      refine And.intro ?_ ?_
      · intro (c1 : 800 ≤ i)
        show post none M1
        exact k M1 hk
      · intro (c1 : i < 800)
        refine And.intro (show 0 ≤ i ∧ i < 800 by omega) ?_
        show Q 2 [(2, (0, 0, 1, 801, i + 1)), (0, (2, 28, 0, 0, 0)), (1, (0, 0, (-2147483648), 2147483647, x1))] [] (xa_up M1 28 i x1)
        refine hgo.2.1 2 _ [(2, (0, 0, 0, 800, i + 1)), (0, (2, 28, 0, 0, 0)), (1, (0, 0, (-2147483648), 2147483647, x1))] _ _ (xa_subI rfl rfl (fun _ _ _ _ => by omega) (xa_subR rfl (xa_subI rfl rfl (fun _ _ _ _ => by omega) (xa_sub0)))) ?_
        exact ih (i + 1) (xa_up M1 28 i x1) (by omega) (fun q j hq => (xa_up_ne (fun e => hq e.1)).trans (hk q j hq)) (by omega)
  refine hgo.1 7 [2] 0 _ _ _ ?_
  show Q 2 [(2, (0, 0, 0, 0, 0)), (0, (2, 28, 0, 0, 0)), (1, (0, 0, (-2147483648), 2147483647, x1))] [] M
  refine hgo.2.1 2 _ [(2, (0, 0, 0, 800, 0)), (0, (2, 28, 0, 0, 0)), (1, (0, 0, (-2147483648), 2147483647, x1))] _ _ (xa_subI rfl rfl (fun _ _ _ _ => by omega) (xa_subR rfl (xa_subI rfl rfl (fun _ _ _ _ => by omega) (xa_sub0)))) ?_
  exact loop 801 0 M (by omega) (fun _ _ _ => rfl) (by omega)
theorem cx_89_15 {b : Bool} {A : Nat → Nat} {h0 : g_H} {d : Nat} {M : xa_M} {post : Option xa_V → xa_M → Prop} {l1 u1 : Int} {x1 : Int} (h1 : 0 ≤ x1 ∧ x1 < 14) (k1 : post (some (0, 0, (-2147483648), 2147483647, xa_w32 ((xa_w32 ((M 24 x1) - (M 23 x1))) + 1))) M) : xa_C (xl_I b) A h0 (d + 2) 89 [(2, 15, 0, 0, 0), (0, 0, l1, u1, x1)] M post := by
  refine xa_C_arg [(2, 15, 0, 0, 0), (0, 0, (-2147483648), 2147483647, x1)] (xa_svR (xa_svI (fun _ _ _ _ => by omega) (xa_sv0))) ?_
  refine xa_meth (Q0 := (2, 1, false, 0, 0, 3)) (by decide +kernel) ⟨rfl, rfl⟩ (full := s_c_89) rfl rfl ?_
  intro hM hv Q hgo
  refine hgo.1 16 [] 0 _ _ _ ?_
  show xa_C (xl_I b) A h0 _ 23 [(2, 24, 0, 0, 0), (0, 0, (-2147483648), 2147483647, x1)] M _
  refine cx_23_24 (show 0 ≤ x1 ∧ x1 < 14 by omega) ?_
  show xa_C (xl_I b) A h0 _ 23 [(2, 23, 0, 0, 0), (0, 0, (-2147483648), 2147483647, x1)] M _
  refine cx_23_23 (show 0 ≤ x1 ∧ x1 < 14 by omega) ?_
  show post (some (0, 0, (-2147483648), 2147483647, xa_w32 ((xa_w32 ((M 24 x1) - (M 23 x1))) + 1))) M
  exact k1
theorem cx_23_29 {b : Bool} {A : Nat → Nat} {h0 : g_H} {d : Nat} {M : xa_M} {post : Option xa_V → xa_M → Prop} {l1 u1 : Int} {i : Int} (h1 : 0 ≤ i ∧ i < 14) (k1 : post (some (0, 0, (-2147483648), 2147483647, M 29 i)) M) : xa_C (xl_I b) A h0 (d + 1) 23 [(2, 29, 0, 0, 0), (0, 0, l1, u1, i)] M post := by
  refine xa_C_arg [(2, 29, 0, 0, 0), (0, 0, (-2147483648), 2147483647, i)] (xa_svR (xa_svI (fun _ _ _ _ => by omega) xa_sv0)) ?_
  refine xa_meth (Q0 := (2, 1, false, 0, 0, 11)) (by decide +kernel) ⟨rfl, rfl⟩ (full := s_c_23) rfl rfl ?_
  intro hM hv Q hgo
  refine hgo.1 15 [] 0 _ _ _ ?_
  refine And.intro ?_ ?_
  · intro (c1 : i < 0)
    show post (some (0, 0, 0, 0, 0)) M
    exact absurd h1 (by omega)
  · intro (c1 : 0 ≤ i)
    refine And.intro ?_ ?_
    · intro (c2 : 14 ≤ i)
      show post (some (0, 0, 0, 0, 0)) M
      exact absurd h1 (by omega)
    · intro (c2 : i < 14)
      refine And.intro (show 0 ≤ i ∧ i < 14 by omega) ?_
      show post (some (0, 0, (-2147483648), 2147483647, M 29 i)) M
      exact k1
theorem cx_103t {b : Bool} {A : Nat → Nat} {h0 : g_H} {d : Nat} {M : xa_M} {post : Option xa_V → xa_M → Prop} {N : xa_M} {X p : Int} (hT : tk_M N) (hZ : tk_Z N X p M) (k : ∀ (r : Int) (M1 : xa_M), (r = 0 ∧ fs_c (tk_F N (M 15 10) (M 21) (M 22) p) (tk_pr N (M 15 10) (M 21)).toNat = 0) ∨ (r = 1 ∧ 1 ≤ fs_c (tk_F N (M 15 10) (M 21) (M 22) p) (tk_pr N (M 15 10) (M 21)).toNat) → (∀ (q : Nat) (j : Int), ¬ (25 ≤ q ∧ q ≤ 29) → ¬ (q = 15 ∧ j = 13) → M1 q j = M q j) → post (some (0, 0, 0, 1, r)) M1) : xa_C (xl_I b) A h0 (d + 6) 103 [(2, 15, 0, 0, 0)] M post := by
  refine xa_C_wk ?_
  refine xa_meth (Q0 := (5, 2, false, 0, 0, 3)) (by decide +kernel) ⟨rfl, rfl⟩ (full := s_c_103) rfl rfl ?_
  intro hM hv Q hgo
  have hL1 := (tk_Zl hT hZ).1
  have loopC : ∀ (i : Int), 0 ≤ i ∧ i < 200000 → ∀ (Mc : xa_M), 0 ≤ Mc 15 10 ∧ Mc 15 10 ≤ 14 → (∀ M1 : xa_M, (∀ (q : Nat) (j : Int), ¬ (q = 28 ∨ q = 29) → M1 q j = Mc q j) → Q 54 [(2, (0, 0, 0, 200000, i + 1)), (0, (2, 15, 0, 0, 0))] [] M1) → ∀ (f : Nat) (w : Int) (M1 : xa_M), 0 ≤ w ∧ w ≤ 14 → (∀ (q : Nat) (j : Int), ¬ (q = 28 ∨ q = 29) → M1 q j = Mc q j) → 14 - w < (f : Int) → Q 69 [(3, (0, 0, 0, 14, w)), (2, (0, 0, 0, 200000, i)), (0, (2, 15, 0, 0, 0))] [] M1 := by
    intro i ii Mc m10 kk f
    induction f with
    | zero => intro w M1 w1 hb hms; omega
    | succ f ihC =>
      intro w M1 w1 hb hms
      have e10 := hb 15 10 (by decide)
      refine hgo.1 31 [69, 54] 69 _ _ _ ?_
      refine And.intro ?_ ?_
      · intro (c1 : (M1 15 10) ≤ w)
        show Q 54 [(2, (0, 0, 1, 200001, i + 1)), (3, (0, 0, 0, 14, w)), (0, (2, 15, 0, 0, 0))] [] M1
        refine hgo.2.1 54 _ [(2, (0, 0, 0, 200000, i + 1)), (0, (2, 15, 0, 0, 0))] _ _ (xa_subI rfl rfl (fun _ _ _ _ => by omega) (xa_subR rfl (xa_sub0))) ?_
        exact kk M1 hb
      · intro (c1 : w < (M1 15 10))
        show xa_C (xl_I b) A h0 _ 23 [(2, 29, 0, 0, 0), (0, 0, 0, 14, w)] M1 _
        refine cx_23_29 (show 0 ≤ w ∧ w < 14 by omega) ?_
        show xa_C (xl_I b) A h0 _ 23 [(2, 25, 0, 0, 0), (0, 0, 0, 14, w)] M1 _
        refine cx_23_25 (show 0 ≤ w ∧ w < 14 by omega) ?_
        show xa_C (xl_I b) A h0 _ 23 [(2, 28, 0, 0, 0), (0, 0, (-2147483648), 2147483647, xa_w32 ((M1 29 w) + (M1 25 w)))] M1 _
        refine cx_23w_28 ?_
        intro r102
        show xa_C (xl_I b) A h0 _ 18 [(2, 28, 0, 0, 0), (0, 0, (-2147483648), 2147483647, xa_w32 ((M1 29 w) + (M1 25 w))), (0, 0, (-2147483648), 2147483647, xa_w32 (r102 + 1))] M1 _
        refine cx_18w_28 ?_
        intro M103 (i2 : ∀ (q : Nat) (j : Int), ¬ q = 28 → M103 q j = M1 q j)
        show Q 69 [(3, (0, 0, 1, 15, w + 1)), (4, (0, 0, (-2147483648), 2147483647, xa_w32 ((M1 29 w) + (M1 25 w)))), (2, (0, 0, 0, 200000, i)), (0, (2, 15, 0, 0, 0))] [] M103
        refine hgo.2.1 69 _ [(3, (0, 0, 0, 14, w + 1)), (2, (0, 0, 0, 200000, i)), (0, (2, 15, 0, 0, 0))] _ _ (xa_subI rfl rfl (fun _ _ _ _ => by omega) (xa_subI rfl rfl (fun _ _ _ _ => by omega) (xa_subR rfl (xa_sub0)))) ?_
        exact ihC (w + 1) M103 (by omega) (fun q j hq => (i2 q j (by omega)).trans (hb q j hq)) (by omega)
  have loopA : ∀ (f : Nat) (i : Int) (M1 : xa_M), 0 ≤ i ∧ i ≤ 200000 → (∃ Ma : xa_M, tk_Z N X p Ma ∧ fa_K Ma M1 ∧ tk_st N p Ma M1 i ∧ Ma 15 10 = M 15 10 ∧ Ma 21 = M 21 ∧ Ma 22 = M 22) → i ≤ fs_c (tk_F N (M 15 10) (M 21) (M 22) p) (tk_pr N (M 15 10) (M 21)).toNat → (∀ (q : Nat) (j : Int), ¬ (25 ≤ q ∧ q ≤ 29) → ¬ (q = 15 ∧ j = 13) → M1 q j = M q j) → 200000 - i < (f : Int) → Q 54 [(2, (0, 0, 0, 200000, i)), (0, (2, 15, 0, 0, 0))] [] M1 := by
    intro f
    induction f with
    | zero => intro i M1 i1 hE hge hfr hms; clear hE hge; omega
    | succ f ih =>
      intro i M1 i1 hE hge hfr hms
      obtain ⟨Ma, hZa, hK, hst, x10, x21, x22⟩ := hE
      refine hgo.1 15 [54, 69] 54 _ _ _ ?_
      refine And.intro ?_ ?_
      · intro (c1 : 200000 ≤ i)
        refine And.intro ?_ ?_
        · intro (c2 : i ≤ 0)
          show xa_wk post (some (0, 0, 0, 0, 0)) M1
          exfalso
          omega
        · intro (c2 : 0 < i)
          show xa_wk post (some (0, 0, 1, 1, 1)) M1
          exact xa_wkI 1 rfl (fun _ _ => by omega) (k 1 M1 (Or.inr ⟨rfl, by omega⟩) hfr)
      · intro (c1 : i < 200000)
        show xa_C (xl_I b) A h0 _ 91 [(2, 15, 0, 0, 0)] M1 _
        refine cx_91t hT hZa hK hst ?_ ?_
        · intro M104 (i3 : fa_K Ma M104) (i4 : tk_in N (Ma 15 10) (Ma 21) (M104 25)) (i5 : tk_F N (Ma 15 10) (Ma 21) (Ma 22) p (tk_rk N (Ma 15 10) (Ma 21) (M104 25))) (i6 : fs_c (tk_F N (Ma 15 10) (Ma 21) (Ma 22) p) (tk_rk N (Ma 15 10) (Ma 21) (M104 25)).toNat = i) (i7 : tk_st N p Ma M104 (i + 1))
          refine And.intro ?_ ?_
          · intro (c8 : 1 = 0)
            exfalso
            omega
          · intro (c8 : ¬ 1 = 0)
            show Q 69 [(3, (0, 0, 0, 0, 0)), (2, (0, 0, 0, 200000, i)), (0, (2, 15, 0, 0, 0))] [] M104
            rw [x10, x21] at i4
            rw [x10, x21, x22] at i5 i6
            refine hgo.2.1 69 _ [(3, (0, 0, 0, 14, 0)), (2, (0, 0, 0, 200000, i)), (0, (2, 15, 0, 0, 0))] _ _ (xa_subI rfl rfl (fun _ _ _ _ => by omega) (xa_subI rfl rfl (fun _ _ _ _ => by omega) (xa_subR rfl (xa_sub0)))) ?_
            exact loopC i (by omega) M104 (by rw [i3 15 10 (by decide) (by decide) (by decide) (by omega), x10]; omega) (fun M2 hb2 => by
              obtain ⟨Mb, z1, z2, z3, z4, z5, z6⟩ := tk_r2 hZa i3 i7 hb2
              exact ih (i + 1) M2 (by omega) ⟨Mb, z1, z2, z3, z4.trans x10, z5.trans x21, z6.trans x22⟩ (tk_ge i4 i5 i6) (fun q j h1 h2 => (hb2 q j (by omega)).trans ((i3 q j (by omega) (by omega) (by omega) h2).trans ((hK q j (by omega) (by omega) (by omega) h2).symm.trans (hfr q j h1 h2)))) (by omega)) 15 0 M104 (by omega) (fun _ _ _ => rfl) (by omega)
        · intro M104 (i9 : fa_K Ma M104) (i10 : fs_c (tk_F N (Ma 15 10) (Ma 21) (Ma 22) p) (tk_pr N (Ma 15 10) (Ma 21)).toNat = i)
          refine And.intro ?_ ?_
          · intro (c11 : 0 = 0)
            refine And.intro ?_ ?_
            · intro (c12 : i ≤ 0)
              show xa_wk post (some (0, 0, 0, 0, 0)) M104
              rw [x10, x21, x22] at i10
              exact xa_wkI 0 rfl (fun _ _ => by omega) (k 0 _ (Or.inl ⟨rfl, by omega⟩) (fun q j h1 h2 => (i9 q j (by omega) (by omega) (by omega) h2).trans ((hK q j (by omega) (by omega) (by omega) h2).symm.trans (hfr q j h1 h2))))
            · intro (c12 : 0 < i)
              show xa_wk post (some (0, 0, 1, 1, 1)) M104
              rw [x10, x21, x22] at i10
              exact xa_wkI 1 rfl (fun _ _ => by omega) (k 1 _ (Or.inr ⟨rfl, by omega⟩) (fun q j h1 h2 => (i9 q j (by omega) (by omega) (by omega) h2).trans ((hK q j (by omega) (by omega) (by omega) h2).symm.trans (hfr q j h1 h2))))
          · intro (c11 : ¬ 0 = 0)
            exfalso
            omega
  have loopB : ∀ (f : Nat) (i g : Int) (M1 : xa_M), 0 ≤ i ∧ i ≤ 14 → (∀ (q : Nat) (j : Int), ¬ (q = 28 ∨ q = 29) → M1 q j = M q j) → 14 - i < (f : Int) → Q 12 [(2, (0, 0, 0, 14, i)), (1, (0, 0, (-2147483648), 2147483647, g)), (0, (2, 15, 0, 0, 0))] [] M1 := by
    intro f
    induction f with
    | zero => intro i g M1 i1 hb hms; omega
    | succ f ihB =>
      intro i g M1 i1 hb hms
      have e10 := hb 15 10 (by decide)
      refine hgo.1 27 [12, 54] 12 _ _ _ ?_
      refine And.intro ?_ ?_
      · intro (c1 : (M1 15 10) ≤ i)
        show Q 54 [(2, (0, 0, 0, 0, 0)), (1, (0, 0, (-2147483648), 2147483647, g)), (0, (2, 15, 0, 0, 0))] [] M1
        refine hgo.2.1 54 _ [(2, (0, 0, 0, 200000, 0)), (0, (2, 15, 0, 0, 0))] _ _ (xa_subI rfl rfl (fun _ _ _ _ => by omega) (xa_subR rfl (xa_sub0))) ?_
        obtain ⟨Ma, z1, z2, z3, z4, z5, z6⟩ := tk_r2 (Ma := M) (M1 := M) (M2 := M1) hZ fa_Kr (tk_st0 hZ.2.2.2) hb
        exact loopA 200001 0 M1 (by omega) ⟨Ma, z1, z2, z3, z4, z5, z6⟩ (fs_cb _).1 (fun q j h1 h2 => hb q j (by omega)) (by omega)
      · intro (c1 : i < (M1 15 10))
        show xa_C (xl_I b) A h0 _ 23 [(2, 23, 0, 0, 0), (0, 0, 0, 14, i)] M1 _
        refine cx_23_23 (show 0 ≤ i ∧ i < 14 by omega) ?_
        show xa_C (xl_I b) A h0 _ 18 [(2, 29, 0, 0, 0), (0, 0, 0, 14, i), (0, 0, (-2147483648), 2147483647, xa_w32 (g - (M1 23 i)))] M1 _
        refine cx_18w_29 ?_
        intro M101 (i2 : ∀ (q : Nat) (j : Int), ¬ q = 29 → M101 q j = M1 q j)
        show xa_C (xl_I b) A h0 _ 89 [(2, 15, 0, 0, 0), (0, 0, 0, 14, i)] M101 _
        refine cx_89_15 (show 0 ≤ i ∧ i < 14 by omega) ?_
        show Q 12 [(2, (0, 0, 1, 15, i + 1)), (1, (0, 0, (-2147483648), 2147483647, xa_w32 (g + (xa_w32 ((xa_w32 ((M101 24 i) - (M101 23 i))) + 1))))), (0, (2, 15, 0, 0, 0))] [] M101
        refine hgo.2.1 12 _ [(2, (0, 0, 0, 14, i + 1)), (1, (0, 0, (-2147483648), 2147483647, xa_w32 (g + (xa_w32 ((xa_w32 ((M101 24 i) - (M101 23 i))) + 1))))), (0, (2, 15, 0, 0, 0))] _ _ (xa_subI rfl rfl (fun _ _ _ _ => by omega) (xa_subI rfl rfl (fun _ _ _ _ => by omega) (xa_subR rfl (xa_sub0)))) ?_
        exact ihB (i + 1) _ M101 (by omega) (fun q j hq => (i2 q j (by omega)).trans (hb q j hq)) (by omega)
  refine hgo.1 13 [12] 0 _ _ _ ?_
  show xa_C (xl_I b) A h0 _ 77 [(2, 28, 0, 0, 0), (0, 0, 0, 0, 0)] M _
  refine cx_77q ?_
  intro M105 (i1 : ∀ (q : Nat) (j : Int), ¬ q = 28 → M105 q j = M q j)
  show Q 12 [(2, (0, 0, 0, 0, 0)), (1, (0, 0, 0, 0, 0)), (0, (2, 15, 0, 0, 0))] [] M105
  refine hgo.2.1 12 _ [(2, (0, 0, 0, 14, 0)), (1, (0, 0, (-2147483648), 2147483647, 0)), (0, (2, 15, 0, 0, 0))] _ _ (xa_subI rfl rfl (fun _ _ _ _ => by omega) (xa_subI rfl rfl (fun _ _ _ _ => by omega) (xa_subR rfl (xa_sub0)))) ?_
  exact loopB 15 0 0 M105 (by omega) (fun q j hq => i1 q j (by omega)) (by omega)
theorem cx_105w {b : Bool} {A : Nat → Nat} {h0 : g_H} {d : Nat} {M : xa_M} {post : Option xa_V → xa_M → Prop} {l1 u1 l2 u2 x1 x2 : Int} (h1 : 0 ≤ x1 ∧ x1 < 14) (k : ∀ r : Int, post (some (0, 0, (-2147483648), 2147483647, r)) M) : xa_C (xl_I b) A h0 (d + 2) 105 [(2, 15, 0, 0, 0), (0, 0, l1, u1, x1), (0, 0, l2, u2, x2)] M post := by
  refine xa_C_wk ?_
  refine xa_C_arg [(2, 15, 0, 0, 0), (0, 0, (-2147483648), 2147483647, x1), (0, 0, (-2147483648), 2147483647, x2)] (xa_svR (xa_svI (fun _ _ _ _ => by omega) (xa_svI (fun _ _ _ _ => by omega) xa_sv0))) ?_
  refine xa_meth (Q0 := (3, 1, false, 0, 0, 3)) (by decide +kernel) ⟨rfl, rfl⟩ (full := s_c_105) rfl rfl ?_
  intro hM hv Q hgo
  refine hgo.1 14 [] 0 _ _ _ ?_
  show xa_C (xl_I b) A h0 _ 23 [(2, 29, 0, 0, 0), (0, 0, (-2147483648), 2147483647, x1)] M _
  refine cx_23_29 (show 0 ≤ x1 ∧ x1 < 14 by omega) ?_
  show xa_C (xl_I b) A h0 _ 23 [(2, 28, 0, 0, 0), (0, 0, (-2147483648), 2147483647, xa_w32 ((M 29 x1) + x2))] M _
  refine cx_23w_28 ?_
  intro r101
  show xa_wk post (some (0, 0, (-2147483648), 2147483647, r101)) M
  exact xa_wkI _ rfl (fun _ _ => by omega) (k _)
theorem cx_104t {b : Bool} {A : Nat → Nat} {h0 : g_H} {d : Nat} {M : xa_M} {post : Option xa_V → xa_M → Prop} {l1 u1 x1 : Int} (h1 : 0 ≤ x1 ∧ x1 < 14) (hL : 0 ≤ M 23 x1 ∧ M 23 x1 ≤ 400) (hH : M 24 x1 ≤ 400) (k : ∀ M1 : xa_M, (∀ (q : Nat) (j : Int), ¬ (q = 48 ∨ q = 49) → M1 q j = M q j) → post (some (0, 0, 0, 0, 0)) M1) : xa_C (xl_I b) A h0 (d + 3) 104 [(2, 15, 0, 0, 0), (0, 0, l1, u1, x1), (2, 48, 0, 0, 0)] M post := by
  refine xa_C_wk ?_
  refine xa_C_arg [(2, 15, 0, 0, 0), (0, 0, (-2147483648), 2147483647, x1), (2, 48, 0, 0, 0)] (xa_svR (xa_svI (fun _ _ _ _ => by omega) (xa_svR xa_sv0))) ?_
  refine xa_meth (Q0 := (7, 1, false, 0, 0, 3)) (by decide +kernel) ⟨rfl, rfl⟩ (full := s_c_104) rfl rfl ?_
  intro hM hv Q hgo
  have loop : ∀ (f : Nat) (n u v w : Int), 0 ≤ n ∧ n ≤ 401 → 401 - n < (f : Int) → Q 18 [(6, (0, 0, 0, 401, n)), (5, (0, 0, (-2147483648), 2147483647, u)), (4, (0, 0, (-2147483648), 2147483647, v)), (3, (0, 0, (-2147483648), 2147483647, w)), (0, (2, 15, 0, 0, 0)), (1, (0, 0, 0, 13, x1)), (2, (2, 48, 0, 0, 0))] [] M := by
    intro f
    induction f with
    | zero => intro n u v w n1 hms; omega
    | succ f ih =>
      intro n u v w n1 hms
      refine hgo.1 27 [18] 18 _ _ _ ?_
      show xa_C (xl_I b) A h0 _ 23 [(2, 24, 0, 0, 0), (0, 0, 0, 13, x1)] M _
      refine cx_23_24 (show 0 ≤ x1 ∧ x1 < 14 by omega) ?_
      refine And.intro ?_ ?_
      · intro (c1 : (M 24 x1) < n)
        show xa_C (xl_I b) A h0 _ 59 [(2, 48, 0, 0, 0)] M _
        refine cx_59_48 ?_
        show xa_C (xl_I b) A h0 _ 60 [(2, 48, 0, 0, 0), (1, 0, (-2147483648), 2147483647, w)] (xa_up M 48 1 0) _
        refine cx_60b (by show (0 : Int) ≤ 0; omega) ?_
        intro M101 (i2 : ∀ (q : Nat) (j : Int), ¬ (q = 48 ∨ q = 49) → M101 q j = (xa_up M 48 1 0) q j) (i3 : (0 : Int) ≤ M101 48 1)
        show xa_C (xl_I b) A h0 _ 60 [(2, 48, 0, 0, 0), (1, 0, (-2147483648), 2147483647, v)] M101 _
        refine cx_60b (by show (0 : Int) ≤ M101 48 1; omega) ?_
        intro M102 (i4 : ∀ (q : Nat) (j : Int), ¬ (q = 48 ∨ q = 49) → M102 q j = M101 q j) (i5 : (0 : Int) ≤ M102 48 1)
        show xa_C (xl_I b) A h0 _ 60 [(2, 48, 0, 0, 0), (1, 0, (-2147483648), 2147483647, u)] M102 _
        refine cx_60b (by show (0 : Int) ≤ M102 48 1; omega) ?_
        intro M103 (i6 : ∀ (q : Nat) (j : Int), ¬ (q = 48 ∨ q = 49) → M103 q j = M102 q j) (i7 : (0 : Int) ≤ M103 48 1)
        show xa_wk post (some (0, 0, 0, 0, 0)) M103
        exact xa_wkI _ rfl (fun _ _ => by omega) (k _ (fun q j hq => (i6 q j hq).trans ((i4 q j hq).trans ((i2 q j hq).trans ((xa_up_ne (by omega)))))))
      · intro (c1 : n ≤ (M 24 x1))
        show xa_C (xl_I b) A h0 _ 105 [(2, 15, 0, 0, 0), (0, 0, 0, 13, x1), (0, 0, 0, 401, n)] M _
        refine cx_105w (by omega) ?_
        intro r104
        refine And.intro ?_ ?_
        · intro (c8 : r104 ≤ 0)
          show Q 18 [(6, (0, 0, 1, 402, n + 1)), (5, (0, 0, (-2147483648), 2147483647, u)), (4, (0, 0, (-2147483648), 2147483647, v)), (3, (0, 0, (-2147483648), 2147483647, w)), (0, (2, 15, 0, 0, 0)), (1, (0, 0, 0, 13, x1)), (2, (2, 48, 0, 0, 0))] [] M
          refine hgo.2.1 18 _ [(6, (0, 0, 0, 401, n + 1)), (5, (0, 0, (-2147483648), 2147483647, u)), (4, (0, 0, (-2147483648), 2147483647, v)), (3, (0, 0, (-2147483648), 2147483647, w)), (0, (2, 15, 0, 0, 0)), (1, (0, 0, 0, 13, x1)), (2, (2, 48, 0, 0, 0))] _ _ (xa_subI rfl rfl (fun _ _ _ _ => by omega) (xa_subI rfl rfl (fun _ _ _ _ => by omega) (xa_subI rfl rfl (fun _ _ _ _ => by omega) (xa_subI rfl rfl (fun _ _ _ _ => by omega) (xa_subR rfl (xa_subI rfl rfl (fun _ _ _ _ => by omega) (xa_subR rfl (xa_sub0)))))))) ?_
          exact ih (n + 1) u v w (by omega) (by omega)
        · intro (c8 : 0 < r104)
          refine And.intro ?_ ?_
          · intro (c9 : ¬ w = (-1))
            show Q 18 [(6, (0, 0, 1, 402, n + 1)), (5, (0, 0, (-2147483648), 2147483647, xa_w32 (u + 1))), (4, (0, 0, 0, 401, n)), (3, (0, 0, (-2147483648), 2147483647, w)), (0, (2, 15, 0, 0, 0)), (1, (0, 0, 0, 13, x1)), (2, (2, 48, 0, 0, 0))] [] M
            refine hgo.2.1 18 _ [(6, (0, 0, 0, 401, n + 1)), (5, (0, 0, (-2147483648), 2147483647, xa_w32 (u + 1))), (4, (0, 0, (-2147483648), 2147483647, n)), (3, (0, 0, (-2147483648), 2147483647, w)), (0, (2, 15, 0, 0, 0)), (1, (0, 0, 0, 13, x1)), (2, (2, 48, 0, 0, 0))] _ _ (xa_subI rfl rfl (fun _ _ _ _ => by omega) (xa_subI rfl rfl (fun _ _ _ _ => by omega) (xa_subI rfl rfl (fun _ _ _ _ => by omega) (xa_subI rfl rfl (fun _ _ _ _ => by omega) (xa_subR rfl (xa_subI rfl rfl (fun _ _ _ _ => by omega) (xa_subR rfl (xa_sub0)))))))) ?_
            exact ih (n + 1) (xa_w32 (u + 1)) n w (by omega) (by omega)
          · intro (c9 : w = (-1))
            show Q 18 [(6, (0, 0, 1, 402, n + 1)), (5, (0, 0, (-2147483648), 2147483647, xa_w32 (u + 1))), (4, (0, 0, 0, 401, n)), (3, (0, 0, 0, 401, n)), (0, (2, 15, 0, 0, 0)), (1, (0, 0, 0, 13, x1)), (2, (2, 48, 0, 0, 0))] [] M
            refine hgo.2.1 18 _ [(6, (0, 0, 0, 401, n + 1)), (5, (0, 0, (-2147483648), 2147483647, xa_w32 (u + 1))), (4, (0, 0, (-2147483648), 2147483647, n)), (3, (0, 0, (-2147483648), 2147483647, n)), (0, (2, 15, 0, 0, 0)), (1, (0, 0, 0, 13, x1)), (2, (2, 48, 0, 0, 0))] _ _ (xa_subI rfl rfl (fun _ _ _ _ => by omega) (xa_subI rfl rfl (fun _ _ _ _ => by omega) (xa_subI rfl rfl (fun _ _ _ _ => by omega) (xa_subI rfl rfl (fun _ _ _ _ => by omega) (xa_subR rfl (xa_subI rfl rfl (fun _ _ _ _ => by omega) (xa_subR rfl (xa_sub0)))))))) ?_
            exact ih (n + 1) (xa_w32 (u + 1)) n n (by omega) (by omega)
  refine hgo.1 16 [18] 0 _ _ _ ?_
  show xa_C (xl_I b) A h0 _ 23 [(2, 23, 0, 0, 0), (0, 0, (-2147483648), 2147483647, x1)] M _
  refine cx_23_23 (show 0 ≤ x1 ∧ x1 < 14 by omega) ?_
  show Q 18 [(6, (0, 0, (-2147483648), 2147483647, M 23 x1)), (5, (0, 0, 0, 0, 0)), (4, (0, 0, (-1), (-1), (-1))), (3, (0, 0, (-1), (-1), (-1))), (0, (2, 15, 0, 0, 0)), (1, (0, 0, (-2147483648), 2147483647, x1)), (2, (2, 48, 0, 0, 0))] [] M
  refine hgo.2.1 18 _ [(6, (0, 0, 0, 401, M 23 x1)), (5, (0, 0, (-2147483648), 2147483647, 0)), (4, (0, 0, (-2147483648), 2147483647, (-1))), (3, (0, 0, (-2147483648), 2147483647, (-1))), (0, (2, 15, 0, 0, 0)), (1, (0, 0, 0, 13, x1)), (2, (2, 48, 0, 0, 0))] _ _ (xa_subI rfl rfl (fun _ _ _ _ => by omega) (xa_subI rfl rfl (fun _ _ _ _ => by omega) (xa_subI rfl rfl (fun _ _ _ _ => by omega) (xa_subI rfl rfl (fun _ _ _ _ => by omega) (xa_subR rfl (xa_subI rfl rfl (fun _ _ _ _ => by omega) (xa_subR rfl (xa_sub0)))))))) ?_
  exact loop 402 (M 23 x1) 0 (-1) (-1) (by omega) (by omega)
/-- the list's length -/
theorem tk_Sl {N : xa_M} {X p e s : Int} {W R : Int → Int} (hT : tk_M N) (h : tk_S N X p e s W R) : ¬ (e = 0 ∨ e = -4) ∨ (0 ≤ s ∧ s ≤ 14) := by
  rcases h with ⟨-, h⟩ | ⟨⟨c1, -⟩, ⟨-, h⟩ | ⟨hL, -⟩⟩
  · exact Or.inl (by omega)
  · exact Or.inl (by omega)
  · have := (tk_lst hT ⟨by omega, by omega⟩ hL).1
    exact Or.inr (by omega)
theorem cx_101_50 {A : Nat → Nat} {h0 : g_H} {d : Nat} {M : xa_M} {post : Option xa_V → xa_M → Prop} {l1 u1 l2 u2 l3 u3 x1 x2 x3 : Int} {F : Int → Int} {N : xa_M} (hT : tk_M N) (hR : tk_R M N) (hB : tk_B 50 M N) (hFF : 1 ≤ x1 ∧ x1 ≤ 9 → tk_Y N x1 F) (k : ∀ (lo hi r : Int) (M1 : xa_M), tf_101 N x1 x2 x3 r → (∀ (q : Nat) (j : Int), ¬ (15 ≤ q ∧ q ≤ 29) → ¬ (q = 48 ∨ q = 49) → M1 q j = M q j) → post (some (0, 0, lo, hi, r)) M1) : xa_C (xl_I false) A h0 (d + 7) 101 [(2, 0, 0, 0, 0), (0, 0, l1, u1, x1), (0, 0, l2, u2, x2), (0, 0, l3, u3, x3)] M post := by
  refine xa_C_arg [(2, 0, 0, 0, 0), (0, 0, (-2147483648), 2147483647, x1), (0, 0, (-2147483648), 2147483647, x2), (0, 0, (-2147483648), 2147483647, x3)] (xa_svR (xa_svI (fun _ _ _ _ => by omega) (xa_svI (fun _ _ _ _ => by omega) (xa_svI (fun _ _ _ _ => by omega) xa_sv0)))) ?_
  refine xa_meth (Q0 := (6, 1, false, 0, 0, 11)) (by decide +kernel) ⟨rfl, rfl⟩ (full := s_c_101) rfl rfl ?_
  intro hM hv Q hgo
  refine hgo.1 33 [] 0 _ _ _ ?_
  show xa_C (xl_I _) A h0 _ 86 [(2, 0, 0, 0, 0), (0, 0, (-2147483648), 2147483647, x1), (0, 0, (-2147483648), 2147483647, x2)] M _
  refine cx_86_50 hT hR hB hFF ?_
  intro r102 M101 (i1 : tk_S N x1 x2 r102 (M101 15 10) (M101 21) (M101 22)) (i2 : r102 = 0 → tk_A N x2 M101) (i3 : ∀ q j, ¬ (15 ≤ q ∧ q ≤ 24) → M101 q j = M q j)
  have hS := i1
  refine And.intro ?_ ?_
  · intro (c4 : r102 = 0)
    show xa_C (xl_I _) A h0 _ 102 [(2, 15, 0, 0, 0), (0, 0, (-2147483648), 2147483647, x3)] M101 _
    refine cx_102t (by have q := tk_Sl hT hS; omega) ?_
    intro r103 (i5 : (r103 = -1 ∧ ∀ i, 0 ≤ i → i < M101 15 10 → ¬ M101 21 i = x3) ∨ (0 ≤ r103 ∧ r103 < M101 15 10 ∧ M101 21 r103 = x3))
    refine And.intro ?_ ?_
    · intro (c6 : ¬ r103 = (-1))
      refine And.intro ?_ ?_
      · intro (c7 : r102 = 0)
        show xa_C (xl_I _) A h0 _ 103 [(2, 15, 0, 0, 0)] M101 _
        have er : r102 = 0 := by omega
        have hS0 := hS
        rw [er] at hS0
        obtain ⟨z1, z2, z3, z4⟩ := tk_S_L hS0
        have hZ : tk_Z N x1 x2 M101 := ⟨z1, z3, z4, i2 er⟩
        refine cx_103t hT hZ ?_
        intro r104 M105 (i8 : (r104 = 0 ∧ fs_c (tk_F N (M101 15 10) (M101 21) (M101 22) x2) (tk_pr N (M101 15 10) (M101 21)).toNat = 0) ∨ (r104 = 1 ∧ 1 ≤ fs_c (tk_F N (M101 15 10) (M101 21) (M101 22) x2) (tk_pr N (M101 15 10) (M101 21)).toNat)) (i9 : ∀ (q : Nat) (j : Int), ¬ (25 ≤ q ∧ q ≤ 29) → ¬ (q = 15 ∧ j = 13) → M105 q j = M101 q j)
        refine And.intro ?_ ?_
        · intro (c10 : r104 = 0)
          show post (some (0, 0, (-2), (-2), (-2))) M105
          rcases i5 with ⟨e, -⟩ | ⟨e1, e2, e3⟩
          · exfalso
            omega
          · exact k _ _ _ _ ⟨_, _, _, _, i1, Or.inr ⟨by omega, Or.inr ⟨⟨_, e1, e2, e3⟩, Or.inr ⟨by omega, Or.inl ⟨by omega, rfl⟩⟩⟩⟩⟩ (fun q j h1 h2 => (i9 q j (by omega) (by omega)).trans (i3 q j (by omega)))
        · intro (c10 : ¬ r104 = 0)
          show xa_C (xl_I _) A h0 _ 104 [(2, 15, 0, 0, 0), (0, 0, (-1), 13, r103), (2, 48, 0, 0, 0)] M105 _
          have pl : 0 ≤ r103 ∧ r103 < M101 15 10 := by
            rcases i5 with ⟨e, -⟩ | ⟨e1, e2, -⟩
            · omega
            · exact ⟨e1, e2⟩
          obtain ⟨zl1, -, zl2, -⟩ := tk_Zl hT hZ
          have zl3 := (zl2 r103 pl.1 pl.2).1
          have f23 := i9 23 r103 (by omega) (by omega)
          have f24 := i9 24 r103 (by omega) (by omega)
          refine cx_104t (by omega) (by omega) (by omega) ?_
          intro M106 (i11 : ∀ (q : Nat) (j : Int), ¬ (q = 48 ∨ q = 49) → M106 q j = M105 q j)
          show post (some (0, 0, 0, 0, 0)) M106
          rcases i5 with ⟨e, -⟩ | ⟨e1, e2, e3⟩
          · exfalso
            omega
          · exact k _ _ _ _ ⟨_, _, _, _, i1, Or.inr ⟨by omega, Or.inr ⟨⟨_, e1, e2, e3⟩, Or.inr ⟨by omega, Or.inr ⟨by omega, rfl⟩⟩⟩⟩⟩ (fun q j h1 h2 => (i11 q j h2).trans ((i9 q j (by omega) (by omega)).trans (i3 q j (by omega))))
      · intro (c7 : ¬ r102 = 0)
        exfalso
        omega
    · intro (c6 : r103 = (-1))
      show post (some (0, 0, (-1), (-1), (-1))) M101
      rcases i5 with ⟨-, e⟩ | ⟨e, -, -⟩
      · exact k _ _ _ _ ⟨_, _, _, _, i1, Or.inr ⟨by omega, Or.inl ⟨e, rfl⟩⟩⟩ (fun q j h1 h2 => i3 q j (by omega))
      · exfalso
        omega
  · intro (c4 : ¬ r102 = 0)
    refine And.intro ?_ ?_
    · intro (c12 : r102 = (-4))
      show xa_C (xl_I _) A h0 _ 102 [(2, 15, 0, 0, 0), (0, 0, (-2147483648), 2147483647, x3)] M101 _
      refine cx_102t (by have q := tk_Sl hT hS; omega) ?_
      intro r107 (i13 : (r107 = -1 ∧ ∀ i, 0 ≤ i → i < M101 15 10 → ¬ M101 21 i = x3) ∨ (0 ≤ r107 ∧ r107 < M101 15 10 ∧ M101 21 r107 = x3))
      refine And.intro ?_ ?_
      · intro (c14 : ¬ r107 = (-1))
        refine And.intro ?_ ?_
        · intro (c15 : r102 = 0)
          exfalso
          omega
        · intro (c15 : ¬ r102 = 0)
          show post (some (0, 0, (-4), 0, r102)) M101
          rcases i13 with ⟨e, -⟩ | ⟨e1, e2, e3⟩
          · exfalso
            omega
          · exact k _ _ _ _ ⟨_, _, _, _, i1, Or.inr ⟨by omega, Or.inr ⟨⟨_, e1, e2, e3⟩, Or.inl ⟨by omega, by omega⟩⟩⟩⟩ (fun q j h1 h2 => i3 q j (by omega))
      · intro (c14 : r107 = (-1))
        show post (some (0, 0, (-1), (-1), (-1))) M101
        rcases i13 with ⟨-, e⟩ | ⟨e, -, -⟩
        · exact k _ _ _ _ ⟨_, _, _, _, i1, Or.inr ⟨by omega, Or.inl ⟨e, rfl⟩⟩⟩ (fun q j h1 h2 => i3 q j (by omega))
        · exfalso
          omega
    · intro (c12 : ¬ r102 = (-4))
      show post (some (0, 0, (-4), 0, r102)) M101
      exact k _ _ _ _ ⟨_, _, _, _, i1, Or.inl ⟨by omega, rfl⟩⟩ (fun q j h1 h2 => i3 q j (by omega))
theorem cx_101_55 {A : Nat → Nat} {h0 : g_H} {d : Nat} {M : xa_M} {post : Option xa_V → xa_M → Prop} {l1 u1 l2 u2 l3 u3 x1 x2 x3 : Int} {F : Int → Int} {N : xa_M} (hT : tk_M N) (hR : tk_R M N) (hB : tk_B 55 M N) (hFF : 1 ≤ x1 ∧ x1 ≤ 9 → tk_Y N x1 F) (k : ∀ (lo hi r : Int) (M1 : xa_M), tf_101 N x1 x2 x3 r → (∀ (q : Nat) (j : Int), ¬ (15 ≤ q ∧ q ≤ 29) → ¬ (q = 48 ∨ q = 49) → M1 q j = M q j) → post (some (0, 0, lo, hi, r)) M1) : xa_C (xl_I true) A h0 (d + 7) 101 [(2, 0, 0, 0, 0), (0, 0, l1, u1, x1), (0, 0, l2, u2, x2), (0, 0, l3, u3, x3)] M post := by
  refine xa_C_arg [(2, 0, 0, 0, 0), (0, 0, (-2147483648), 2147483647, x1), (0, 0, (-2147483648), 2147483647, x2), (0, 0, (-2147483648), 2147483647, x3)] (xa_svR (xa_svI (fun _ _ _ _ => by omega) (xa_svI (fun _ _ _ _ => by omega) (xa_svI (fun _ _ _ _ => by omega) xa_sv0)))) ?_
  refine xa_meth (Q0 := (6, 1, false, 0, 0, 11)) (by decide +kernel) ⟨rfl, rfl⟩ (full := s_c_101) rfl rfl ?_
  intro hM hv Q hgo
  refine hgo.1 33 [] 0 _ _ _ ?_
  show xa_C (xl_I _) A h0 _ 86 [(2, 0, 0, 0, 0), (0, 0, (-2147483648), 2147483647, x1), (0, 0, (-2147483648), 2147483647, x2)] M _
  refine cx_86_55 hT hR hB hFF ?_
  intro r102 M101 (i1 : tk_S N x1 x2 r102 (M101 15 10) (M101 21) (M101 22)) (i2 : r102 = 0 → tk_A N x2 M101) (i3 : ∀ q j, ¬ (15 ≤ q ∧ q ≤ 24) → M101 q j = M q j)
  have hS := i1
  refine And.intro ?_ ?_
  · intro (c4 : r102 = 0)
    show xa_C (xl_I _) A h0 _ 102 [(2, 15, 0, 0, 0), (0, 0, (-2147483648), 2147483647, x3)] M101 _
    refine cx_102t (by have q := tk_Sl hT hS; omega) ?_
    intro r103 (i5 : (r103 = -1 ∧ ∀ i, 0 ≤ i → i < M101 15 10 → ¬ M101 21 i = x3) ∨ (0 ≤ r103 ∧ r103 < M101 15 10 ∧ M101 21 r103 = x3))
    refine And.intro ?_ ?_
    · intro (c6 : ¬ r103 = (-1))
      refine And.intro ?_ ?_
      · intro (c7 : r102 = 0)
        show xa_C (xl_I _) A h0 _ 103 [(2, 15, 0, 0, 0)] M101 _
        have er : r102 = 0 := by omega
        have hS0 := hS
        rw [er] at hS0
        obtain ⟨z1, z2, z3, z4⟩ := tk_S_L hS0
        have hZ : tk_Z N x1 x2 M101 := ⟨z1, z3, z4, i2 er⟩
        refine cx_103t hT hZ ?_
        intro r104 M105 (i8 : (r104 = 0 ∧ fs_c (tk_F N (M101 15 10) (M101 21) (M101 22) x2) (tk_pr N (M101 15 10) (M101 21)).toNat = 0) ∨ (r104 = 1 ∧ 1 ≤ fs_c (tk_F N (M101 15 10) (M101 21) (M101 22) x2) (tk_pr N (M101 15 10) (M101 21)).toNat)) (i9 : ∀ (q : Nat) (j : Int), ¬ (25 ≤ q ∧ q ≤ 29) → ¬ (q = 15 ∧ j = 13) → M105 q j = M101 q j)
        refine And.intro ?_ ?_
        · intro (c10 : r104 = 0)
          show post (some (0, 0, (-2), (-2), (-2))) M105
          rcases i5 with ⟨e, -⟩ | ⟨e1, e2, e3⟩
          · exfalso
            omega
          · exact k _ _ _ _ ⟨_, _, _, _, i1, Or.inr ⟨by omega, Or.inr ⟨⟨_, e1, e2, e3⟩, Or.inr ⟨by omega, Or.inl ⟨by omega, rfl⟩⟩⟩⟩⟩ (fun q j h1 h2 => (i9 q j (by omega) (by omega)).trans (i3 q j (by omega)))
        · intro (c10 : ¬ r104 = 0)
          show xa_C (xl_I _) A h0 _ 104 [(2, 15, 0, 0, 0), (0, 0, (-1), 13, r103), (2, 48, 0, 0, 0)] M105 _
          have pl : 0 ≤ r103 ∧ r103 < M101 15 10 := by
            rcases i5 with ⟨e, -⟩ | ⟨e1, e2, -⟩
            · omega
            · exact ⟨e1, e2⟩
          obtain ⟨zl1, -, zl2, -⟩ := tk_Zl hT hZ
          have zl3 := (zl2 r103 pl.1 pl.2).1
          have f23 := i9 23 r103 (by omega) (by omega)
          have f24 := i9 24 r103 (by omega) (by omega)
          refine cx_104t (by omega) (by omega) (by omega) ?_
          intro M106 (i11 : ∀ (q : Nat) (j : Int), ¬ (q = 48 ∨ q = 49) → M106 q j = M105 q j)
          show post (some (0, 0, 0, 0, 0)) M106
          rcases i5 with ⟨e, -⟩ | ⟨e1, e2, e3⟩
          · exfalso
            omega
          · exact k _ _ _ _ ⟨_, _, _, _, i1, Or.inr ⟨by omega, Or.inr ⟨⟨_, e1, e2, e3⟩, Or.inr ⟨by omega, Or.inr ⟨by omega, rfl⟩⟩⟩⟩⟩ (fun q j h1 h2 => (i11 q j h2).trans ((i9 q j (by omega) (by omega)).trans (i3 q j (by omega))))
      · intro (c7 : ¬ r102 = 0)
        exfalso
        omega
    · intro (c6 : r103 = (-1))
      show post (some (0, 0, (-1), (-1), (-1))) M101
      rcases i5 with ⟨-, e⟩ | ⟨e, -, -⟩
      · exact k _ _ _ _ ⟨_, _, _, _, i1, Or.inr ⟨by omega, Or.inl ⟨e, rfl⟩⟩⟩ (fun q j h1 h2 => i3 q j (by omega))
      · exfalso
        omega
  · intro (c4 : ¬ r102 = 0)
    refine And.intro ?_ ?_
    · intro (c12 : r102 = (-4))
      show xa_C (xl_I _) A h0 _ 102 [(2, 15, 0, 0, 0), (0, 0, (-2147483648), 2147483647, x3)] M101 _
      refine cx_102t (by have q := tk_Sl hT hS; omega) ?_
      intro r107 (i13 : (r107 = -1 ∧ ∀ i, 0 ≤ i → i < M101 15 10 → ¬ M101 21 i = x3) ∨ (0 ≤ r107 ∧ r107 < M101 15 10 ∧ M101 21 r107 = x3))
      refine And.intro ?_ ?_
      · intro (c14 : ¬ r107 = (-1))
        refine And.intro ?_ ?_
        · intro (c15 : r102 = 0)
          exfalso
          omega
        · intro (c15 : ¬ r102 = 0)
          show post (some (0, 0, (-4), 0, r102)) M101
          rcases i13 with ⟨e, -⟩ | ⟨e1, e2, e3⟩
          · exfalso
            omega
          · exact k _ _ _ _ ⟨_, _, _, _, i1, Or.inr ⟨by omega, Or.inr ⟨⟨_, e1, e2, e3⟩, Or.inl ⟨by omega, by omega⟩⟩⟩⟩ (fun q j h1 h2 => i3 q j (by omega))
      · intro (c14 : r107 = (-1))
        show post (some (0, 0, (-1), (-1), (-1))) M101
        rcases i13 with ⟨-, e⟩ | ⟨e, -, -⟩
        · exact k _ _ _ _ ⟨_, _, _, _, i1, Or.inr ⟨by omega, Or.inl ⟨e, rfl⟩⟩⟩ (fun q j h1 h2 => i3 q j (by omega))
        · exfalso
          omega
    · intro (c12 : ¬ r102 = (-4))
      show post (some (0, 0, (-4), 0, r102)) M101
      exact k _ _ _ _ ⟨_, _, _, _, i1, Or.inl ⟨by omega, rfl⟩⟩ (fun q j h1 h2 => i3 q j (by omega))
/-- isFitting, by the tuple's place -/
theorem fr_isG {A : Nat → Nat} {h0 : g_H} {d : Nat} {M M1 : xa_M} {post : Option xa_V → xa_M → Prop} {l u p y : Int} (hK : fr_K M M1) (hI : xm_Inv M1) (hW : xm_W M1 y) (hp0 : 0 ≤ p) (hp1 : p < M1 60 11) (k : ∀ (r : Int) (M2 : xa_M), (r = 0 ∨ r = 1) → (r = 1 ↔ fr_F M p (fr_r M M1)) → xm_cor M1 M2 → M2 60 20 = M1 60 20 → xm_W M2 y → xm_rk M2 (M2 60 32).toNat = xm_rk M1 (M1 60 32).toNat → fr_K M M2 → fr_r M M2 = fr_r M M1 → (∀ q j, ¬ q = 85 → ¬ q = 86 → M2 q j = M1 q j) → post (some (0, 0, 0, 1, r)) M2) : xa_C xm_I A h0 (d + 3) 242 [(2, 60, 0, 0, 0), (0, 0, l, u, p)] M1 post :=
  ct_isFitF hI hW.1 hW.2.1 hp0 hp1 (fun r M2 hr he h => by
    have h86 : xm_86 M1 M2 := fun q j hq => h q j hq.1 hq.2.1
    refine k r M2 hr (he.trans (fr_fit hK hW.2.1)) (fun q j hs => h q j (fun e => hs (by subst e; exact Or.inl (by decide))) (fun e => hs (by subst e; exact Or.inl (by decide)))) (h 60 20 (by decide) (by decide)) (xm_86_W h86 hW).1 (xm_86_W h86 hW).2 (fun q j h1 h2 => (h q j (by omega) (by omega)).trans (hK q j h1 h2)) ?_ (fun q j a b => h q j a b)
    unfold fr_r
    rw [show M2 84 = M1 84 from funext (fun j => h 84 j (by decide) (by decide))])
/-- the next tuple, by its place -/
theorem fr_nextG {A : Nat → Nat} {h0 : g_H} {d : Nat} {M M1 : xa_M} {post : Option xa_V → xa_M → Prop} {y : Int} (hK : fr_K M M1) (hW : xm_W M1 y) (k : ∀ (r : Int) (M2 : xa_M), (r = 0 ∨ r = 1) → xm_cor M1 M2 → M2 60 20 = M1 60 20 → (∀ z, z ≤ y + 1 → r = 1 → xm_W M2 z) → (r = 1 → xm_rk M2 (M2 60 32).toNat < xm_rk M1 (M1 60 32).toNat) → fr_K M M2 → (r = 1 → fr_r M M2 = fr_r M M1 + 1) → (r = 0 → fr_r M M1 + 1 = fs_pr (fr_L M) (fr_H M) (M 60 32).toNat) → xm_84 M1 M2 → post (some (0, 0, 0, 1, r)) M2) : xa_C xm_I A h0 (d + 1) 243 [(2, 60, 0, 0, 0)] M1 post := by
  obtain ⟨eL, eH, -, e32, -, -⟩ := fr_L_k hK
  refine ct_nextWayF hW.2.1 (fun r M2 hr h84 hF hn hl => ?_)
  rw [eL, eH, e32] at hn hl
  have e32' := h84 60 32 (by decide)
  have e0 := h84 60 0 (by decide)
  have hK2 : fr_K M M2 := fun q j h1 h2 => (h84 q j (by omega)).trans (hK q j h1 h2)
  -- xm_rk falls as fs_rk grows
  have s1 := xm_rks (M := M1) (M1 60 32).toNat
  have s2 := xm_rks (M := M2) (M2 60 32).toNat
  obtain ⟨eL2, eH2, -, e322, -, -⟩ := fr_L_k hK2
  rw [eL, eH] at s1
  rw [eL2, eH2] at s2
  rw [e32] at s1
  rw [e322] at s2
  have hlt : r = 1 → xm_rk M2 (M2 60 32).toNat < xm_rk M1 (M1 60 32).toNat := fun h1 => by
    have := hn h1
    rw [e32, e322]
    omega
  refine k r M2 hr (xm_84_c h84) (h84 60 20 (by decide)) (fun z hz h1 => ⟨fun i i0 i1 => ?_, hF, ?_, ?_⟩) hlt hK2 hn hl h84
  · rw [e32'] at i1
    rw [e0, h84 80 i (by decide)]
    exact hW.1 i i0 i1
  · rw [e32', xm_pr_84 h84]
    exact hW.2.2.1
  · have := hlt h1
    have := hW.2.2.2
    omega
theorem fm_firstG {A : Nat → Nat} {h0 : g_H} {d : Nat} {M : xa_M} {post : Option xa_V → xa_M → Prop} (hI : xm_Inv M) (hY : xm_Y M) (k : ∀ (M1 : xa_M), xm_cor M M1 → M1 60 20 = M 60 20 → xm_W M1 0 → fr_K M M1 → fr_r M M1 = 0 → xm_84 M M1 → post none M1) : xa_C xm_I A h0 (d + 1) 241 [(2, 60, 0, 0, 0)] M post :=
  xa_C_asm (fun hM _ => ct_firstWay (fun M1 h84 ht => by
    have hw := hY.1
    have hp := hY.2
    have e32 := h84 60 32 (by decide)
    have e0 := h84 60 0 (by decide)
    have b32 := xm_f32 hM
    have hF : xm_fit M1 := fun i i0 i1 => by
      rw [e32] at i1
      rw [h84 80 i (by decide), h84 61 _ (by decide), h84 62 _ (by decide), ht i i0 i1]
      have := xm_way_sp hM hI hw i i0 i1
      omega
    have hb := xm_rkb hF (M1 60 32).toNat (by omega)
    have hp1 : xm_pr M1 (M1 60 32).toNat ≤ 200000 := by
      rw [e32, xm_pr_84 h84]
      exact hp
    refine k M1 (xm_84_c h84) (h84 60 20 (by decide)) ⟨fun i i0 i1 => ?_, hF, hp1, by omega⟩ (fun q j h1 h2 => h84 q j (by omega)) (fs_first _ (fun i i0 i1 => ht i i0 (by omega))) h84
    rw [e32] at i1
    rw [e0, h84 80 i (by decide)]
    exact hw i i0 i1))
theorem ct_countFitsF {A : Nat → Nat} {h0 : g_H} {d : Nat} {M : xa_M} {post : Option xa_V → xa_M → Prop} {l1 u1 : Int} {x1 : Int} (hI : xm_Inv M) (hY : xm_Y M) (p0 : 0 ≤ x1) (p1 : x1 < M 60 11) (k : ∀ (M1 : xa_M), xm_cor M M1 → (∃ Mr, fr_K M Mr ∧ M1 60 39 = fs_c (fr_F Mr x1) (fs_pr (fr_L Mr) (fr_H Mr) (Mr 60 32).toNat).toNat) → post none M1) : xa_C xm_I A h0 (d + 4) 246 [(2, 60, 0, 0, 0), (0, 0, l1, u1, x1)] M post := by
  refine xa_C_arg [(2, 60, 0, 0, 0), (0, 0, (-2147483648), 2147483647, x1)] (xa_svR (xa_svI (fun _ _ _ _ => by omega) xa_sv0)) ?_
  refine xa_meth (Q0 := (3, 0, false, 0, 0, 12)) (by decide +kernel) ⟨rfl, rfl⟩ (full := s_c_246) rfl rfl ?_
  intro hM hv Q hgo
  have loop1 : ∀ (Mr : xa_M), fr_K M Mr → ∀ (n : Nat) (M1 : xa_M), xm_cor M M1 → xm_W M1 0 → fr_K Mr M1 → M1 60 39 = fs_c (fr_F Mr x1) (fr_r Mr M1).toNat → fs_pr (fr_L Mr) (fr_H Mr) (Mr 60 32).toNat ≤ 200000 → xm_rk M1 (M1 60 32).toNat < (n : Int) → Q 33 [(1, (0, 0, (-2147483648), 2147483647, x1)), (0, (2, 60, 0, 0, 0))] [] M1 := by
    intro Mr hKr n
    induction n with
    | zero => intro M1 hc hW hK hx hp hms; exact absurd hms (by have := xm_W_rk hW; omega)
    | succ n ih1 =>
      intro M1 hc hW hK hx hp hms1
      refine hgo.2.2 _ _ _ _ (fun hM1 _ => ?_)
      have e11 := xm_corf hc 11 (by omega)
      have b32 := xm_f32 hM1
      have hrk := (xm_rkb hW.2.1 (M1 60 32).toNat (by omega)).1
      have hWs := hW.2.2.2
      obtain ⟨e, he⟩ : ∃ e, e = xm_rk M1 (M1 60 32).toNat := ⟨_, rfl⟩
      have loop2 : ∀ (n : Nat) (x2 : Int) (M1 : xa_M), 0 ≤ x2 ∧ x2 ≤ 14 → xm_cor M M1 → xm_W M1 0 → xm_rk M1 (M1 60 32).toNat = e → fr_K Mr M1 → fr_F Mr x1 (fr_r Mr M1) → M1 60 39 = fs_c (fr_F Mr x1) (fr_r Mr M1).toNat + 1 → 14 - x2 < (n : Int) → Q 56 [(2, (0, 0, 0, 14, x2)), (1, (0, 0, (-2147483648), 2147483647, x1)), (0, (2, 60, 0, 0, 0))] [] M1 := by
        intro n
        induction n with
        | zero => intro x2 M1 b2 hc hW hrke hK hf hx hms; clear hf hx; omega
        | succ n ih2 =>
          intro x2 M1 b2 hc hW hrke hK hf hx hms2
          refine hgo.2.2 _ _ _ _ (fun hM1 _ => ?_)
          have e11 := xm_corf hc 11 (by omega)
          have b32 := xm_f32 hM1
          have hrk := (xm_rkb hW.2.1 (M1 60 32).toNat (by omega)).1
          have hWs := hW.2.2.2
          have hr0 := fr_r0 hK hW.2.1
          have hn1 : M1 60 39 = fs_c (fr_F Mr x1) (fr_r Mr M1 + 1).toNat := by rw [fa_c1 hr0.1 hf]; exact hx
          have t84 : x2 < M1 60 32 → 0 ≤ M1 84 x2 ∧ M1 84 x2 ≤ 400 := fun h => xm_t84 hM1 x2 (by omega) (by omega)
          refine hgo.1 26 [2, 33, 56] 56 _ _ _ ?_
          refine And.intro ?_ ?_
          · intro (c1 : (M1 60 32) ≤ x2)
            show xa_C xm_I A h0 _ 243 [(2, 60, 0, 0, 0)] M1 _
            refine xa_C_mok (fr_nextG hK hW (fun v2 M2 z2 hc2 e2 wN2 rk2 hK2 n2 l2 g2 hM2 => ?_))
            refine And.intro ?_ ?_
            · intro (c3 : ¬ v2 = 0)
              show Q 33 [(2, (0, 0, 0, 14, x2)), (1, (0, 0, (-2147483648), 2147483647, x1)), (0, (2, 60, 0, 0, 0))] [] M2
              refine hgo.2.1 33 _ [(1, (0, 0, (-2147483648), 2147483647, x1)), (0, (2, 60, 0, 0, 0))] _ _ (xa_subI rfl rfl (fun _ _ _ _ => by omega) (xa_subR rfl xa_sub0)) ?_
              exact ih1 M2 (xm_cor_t hc hc2) (wN2 _ (by omega) (by omega)) hK2 (by rw [n2 (by omega), g2 60 39 (by decide)]; exact hn1) hp (by omega)
            · intro (c3 : v2 = 0)
              show post none M2
              exact k _ (xm_cor_t hc hc2) ⟨Mr, hKr, by rw [g2 60 39 (by decide), ← l2 (by omega)]; exact hn1⟩
          · intro (c1 : x2 < (M1 60 32))
            refine And.intro (show 0 ≤ x2 ∧ x2 < 14 by omega) ?_
            refine And.intro (show 0 ≤ ((401 * x2) + (M1 84 x2)) ∧ ((401 * x2) + (M1 84 x2)) < 5614 by omega) ?_
            refine And.intro (show 0 ≤ ((401 * x2) + (M1 84 x2)) ∧ ((401 * x2) + (M1 84 x2)) < 5614 by omega) ?_
            show Q 56 [(2, (0, 0, 1, 15, x2 + 1)), (1, (0, 0, (-2147483648), 2147483647, x1)), (0, (2, 60, 0, 0, 0))] [] (xa_up M1 87 ((401 * x2) + (M1 84 x2)) (xa_w32 ((M1 87 ((401 * x2) + (M1 84 x2))) + 1)))
            refine hgo.2.1 56 _ [(2, (0, 0, 0, 14, x2 + 1)), (1, (0, 0, (-2147483648), 2147483647, x1)), (0, (2, 60, 0, 0, 0))] _ _ (xa_subI rfl rfl (fun _ _ _ _ => by omega) (xa_subI rfl rfl (fun _ _ _ _ => by omega) (xa_subR rfl xa_sub0))) ?_
            have e84 : (xa_up M1 87 ((401 * x2) + (M1 84 x2)) (xa_w32 ((M1 87 ((401 * x2) + (M1 84 x2))) + 1))) 84 = M1 84 := funext (fun j => xa_up_ne (by omega))
            have er2 : fr_r Mr (xa_up M1 87 ((401 * x2) + (M1 84 x2)) (xa_w32 ((M1 87 ((401 * x2) + (M1 84 x2))) + 1))) = fr_r Mr M1 := by
              unfold fr_r
              rw [e84]
            exact ih2 (x2 + 1) (xa_up M1 87 ((401 * x2) + (M1 84 x2)) (xa_w32 ((M1 87 ((401 * x2) + (M1 84 x2))) + 1))) (by omega) (xm_cor_a rfl hc) (xm_86_W (xm_86_s (by omega)) hW).1 ((xm_86_W (xm_86_s (by omega)) hW).2.trans hrke) (fun q j h1 h2 => (xa_up_ne (by omega)).trans (hK q j h1 h2)) (by rw [er2]; exact hf) (by rw [er2]; exact (xa_up_ne (by omega)).trans hx) (by omega)
      refine hgo.1 17 [2, 33, 56] 33 _ _ _ ?_
      show xa_C xm_I A h0 _ 242 [(2, 60, 0, 0, 0), (0, 0, (-2147483648), 2147483647, x1)] M1 _
      refine xa_C_mok (fr_isG hK (xm_Inv_cor hc hI) hW (by omega) (by omega) (fun v1 M1 z1 q1 hc1 e1 wF1 rk1 hK er1 g1 hM1 => ?_))
      rw [← er1] at q1 hx
      rw [← g1 60 39 (by decide) (by decide)] at hx
      have hr0 := fr_r0 hK wF1.2.1
      have hcb := fs_cb (F := fr_F Mr x1) (fr_r Mr M1).toNat
      refine And.intro ?_ ?_
      · intro (c2 : ¬ v1 = 0)
        show Q 56 [(2, (0, 0, 0, 0, 0)), (1, (0, 0, (-2147483648), 2147483647, x1)), (0, (2, 60, 0, 0, 0))] [] (xa_up M1 60 39 (xa_w32 ((M1 60 39) + 1)))
        refine hgo.2.1 56 _ [(2, (0, 0, 0, 14, 0)), (1, (0, 0, (-2147483648), 2147483647, x1)), (0, (2, 60, 0, 0, 0))] _ _ (xa_subI rfl rfl (fun _ _ _ _ => by omega) (xa_subI rfl rfl (fun _ _ _ _ => by omega) (xa_subR rfl xa_sub0))) ?_
        have e84 : (xa_up M1 60 39 (xa_w32 ((M1 60 39) + 1))) 84 = M1 84 := funext (fun j => xa_up_ne (by omega))
        have er2 : fr_r Mr (xa_up M1 60 39 (xa_w32 ((M1 60 39) + 1))) = fr_r Mr M1 := by
          unfold fr_r
          rw [e84]
        have hw := xa_w32_id (n := M1 60 39 + 1) (by omega) (by omega)
        exact loop2 15 0 (xa_up M1 60 39 (xa_w32 ((M1 60 39) + 1))) (by omega) (xm_cor_f (by omega) (xm_cor_t hc hc1)) (xm_86_W (xm_86_s (by omega)) wF1).1 ((xm_86_W (xm_86_s (by omega)) wF1).2.trans (rk1.trans he.symm)) (fun q j h1 h2 => (xa_up_ne (by omega)).trans (hK q j h1 h2)) (by rw [er2]; exact q1.mp (by omega)) (by rw [er2, xa_up_eq, hw, hx]) (by omega)
      · intro (c2 : v1 = 0)
        have hn0 : M1 60 39 = fs_c (fr_F Mr x1) (fr_r Mr M1 + 1).toNat := by rw [fa_c0 hr0.1 (fun h => by have := q1.mpr h; omega)]; exact hx
        show xa_C xm_I A h0 _ 243 [(2, 60, 0, 0, 0)] M1 _
        refine xa_C_mok (fr_nextG hK wF1 (fun v3 M3 z3 hc3 e3 wN3 rk3 hK3 n3 l3 g3 hM3 => ?_))
        refine And.intro ?_ ?_
        · intro (c4 : ¬ v3 = 0)
          show Q 33 [(1, (0, 0, (-2147483648), 2147483647, x1)), (0, (2, 60, 0, 0, 0))] [] M3
          refine hgo.2.1 33 _ [(1, (0, 0, (-2147483648), 2147483647, x1)), (0, (2, 60, 0, 0, 0))] _ _ (xa_subI rfl rfl (fun _ _ _ _ => by omega) (xa_subR rfl xa_sub0)) ?_
          exact ih1 M3 (xm_cor_t (xm_cor_t hc hc1) hc3) (wN3 _ (by omega) (by omega)) hK3 (by rw [n3 (by omega), g3 60 39 (by decide)]; exact hn0) hp (by omega)
        · intro (c4 : v3 = 0)
          show post none M3
          exact k _ (xm_cor_t (xm_cor_t hc hc1) hc3) ⟨Mr, hKr, by rw [g3 60 39 (by decide), ← l3 (by omega)]; exact hn0⟩
  have loop0 : ∀ (n : Nat) (x2 : Int) (M1 : xa_M), 0 ≤ x2 ∧ x2 ≤ 5614 → xm_cor M M1 → xm_Y M1 → fr_K M M1 → 5614 - x2 < (n : Int) → Q 2 [(2, (0, 0, 0, 5614, x2)), (1, (0, 0, (-2147483648), 2147483647, x1)), (0, (2, 60, 0, 0, 0))] [] M1 := by
    intro n
    induction n with
    | zero => intro x2 M1 b2 hc hY hK0 hms; omega
    | succ n ih0 =>
      intro x2 M1 b2 hc hY hK0 hms0
      have e11 := xm_corf hc 11 (by omega)
      refine hgo.1 17 [2, 33, 56] 2 _ _ _ ?_
      refine And.intro ?_ ?_
      · intro (c1 : 5614 ≤ x2)
        show xa_C xm_I A h0 _ 241 [(2, 60, 0, 0, 0)] (xa_up M1 60 39 0) _
        refine xa_C_mok (fm_firstG (xm_Inv_cor (xm_cor_f (by omega) hc) hI) (xm_86_Y (xm_86_s (by omega)) hY) (fun M2 hc2 e2 wA2 hK2 hr2 g2 hM2 => ?_))
        have w2 := wA2.2.2.2
        show Q 33 [(2, (0, 0, 0, 5614, x2)), (1, (0, 0, (-2147483648), 2147483647, x1)), (0, (2, 60, 0, 0, 0))] [] M2
        refine hgo.2.1 33 _ [(1, (0, 0, (-2147483648), 2147483647, x1)), (0, (2, 60, 0, 0, 0))] _ _ (xa_subI rfl rfl (fun _ _ _ _ => by omega) (xa_subR rfl xa_sub0)) ?_
        have hp2 := hY.2
        rw [fr_pr] at hp2
        exact loop1 (xa_up M1 60 39 0) (fun q j h1 h2 => (xa_up_ne (by omega)).trans (hK0 q j h1 h2)) 200000 M2 (xm_cor_t (xm_cor_f (by omega) hc) hc2) wA2 hK2 (by rw [hr2, g2 60 39 (by decide)]; exact xa_up_eq) hp2 (by omega)
      · intro (c1 : x2 < 5614)
        refine And.intro (show 0 ≤ x2 ∧ x2 < 5614 by omega) ?_
        show Q 2 [(2, (0, 0, 1, 5615, x2 + 1)), (1, (0, 0, (-2147483648), 2147483647, x1)), (0, (2, 60, 0, 0, 0))] [] (xa_up M1 87 x2 0)
        refine hgo.2.1 2 _ [(2, (0, 0, 0, 5614, x2 + 1)), (1, (0, 0, (-2147483648), 2147483647, x1)), (0, (2, 60, 0, 0, 0))] _ _ (xa_subI rfl rfl (fun _ _ _ _ => by omega) (xa_subI rfl rfl (fun _ _ _ _ => by omega) (xa_subR rfl xa_sub0))) ?_
        exact ih0 (x2 + 1) (xa_up M1 87 x2 0) (by omega) (xm_cor_a rfl hc) (xm_86_Y (xm_86_s (by omega)) hY) (fun q j h1 h2 => (xa_up_ne (by omega)).trans (hK0 q j h1 h2)) (by omega)
  refine hgo.1 7 [2, 33, 56] 0 _ _ _ ?_
  show Q 2 [(2, (0, 0, 0, 0, 0)), (0, (2, 60, 0, 0, 0)), (1, (0, 0, (-2147483648), 2147483647, x1))] [] M
  refine hgo.2.1 2 _ [(2, (0, 0, 0, 5614, 0)), (1, (0, 0, (-2147483648), 2147483647, x1)), (0, (2, 60, 0, 0, 0))] _ _ (xa_subI rfl rfl (fun _ _ _ _ => by omega) (xa_subI rfl rfl (fun _ _ _ _ => by omega) (xa_subR rfl xa_sub0))) ?_
  exact loop0 5615 0 M (by omega) xm_cor_r hY fr_Kr (by omega)

theorem ms_sureF {A : Nat → Nat} {h0 : g_H} {d : Nat} {M : xa_M} {post : Option xa_V → xa_M → Prop} {l1 u1 l2 u2 l3 u3 : Int} {a x2 x3 : Int} (hI : xm_Inv M) (k : ∀ (o : Option xa_V) (M1 : xa_M), (∃ lo hi n, o = some (0, 0, lo, hi, n) ∧ tf_101 M a x2 x3 n) → xm_cor M M1 → post o M1) : xa_C xm_I A h0 (d + 5) 245 [(2, 60, 0, 0, 0), (0, 0, l1, u1, a), (0, 0, l2, u2, x2), (0, 0, l3, u3, x3)] M post := by
  refine xa_C_arg [(2, 60, 0, 0, 0), (0, 0, (-2147483648), 2147483647, a), (0, 0, (-2147483648), 2147483647, x2), (0, 0, (-2147483648), 2147483647, x3)] (xa_svR (xa_svI (fun _ _ _ _ => by omega) (xa_svI (fun _ _ _ _ => by omega) (xa_svI (fun _ _ _ _ => by omega) xa_sv0)))) ?_
  refine xa_meth (Q0 := (10, 1, false, 0, 0, 12)) (by decide +kernel) ⟨rfl, rfl⟩ (full := s_c_245) rfl rfl ?_
  intro hM hv Q hgo
  have hTM := tk_M_of hM hI
  have loop1 : ∀ (n : Nat) (x9 x8 x7 x6 x5 : Int) (M1 : xa_M), 0 ≤ x9 ∧ x9 ≤ 401 → 0 ≤ x5 ∧ x5 ≤ 13 → xm_cor M M1 → tf_101 M a x2 x3 0 → 401 - x9 < (n : Int) → Q 113 [(9, (0, 0, 0, 401, x9)), (8, (0, 0, (-2147483648), 2147483647, x8)), (7, (0, 0, (-2147483648), 2147483647, x7)), (6, (0, 0, (-2147483648), 2147483647, x6)), (5, (0, 0, 0, 13, x5)), (0, (2, 60, 0, 0, 0))] [] M1 := by
    intro n
    induction n with
    | zero => intro x9 x8 x7 x6 x5 M1 b9 b5 hc hS0 hms; omega
    | succ n ih1 =>
      intro x9 x8 x7 x6 x5 M1 b9 b5 hc hS0 hms1
      refine hgo.1 28 [35, 113] 113 _ _ _ ?_
      refine And.intro ?_ ?_
      · intro (c1 : 400 < x9)
        show xa_C xm_I A h0 _ 231 [(2, 60, 0, 0, 0), (1, 0, (-2147483648), 2147483647, x6)] (xa_up M1 60 20 0) _
        refine ct_tell (n := 0) (by first | rfl | (simp [xa_up]; done) | omega) (by omega) (by omega) ?_
        show xa_C xm_I A h0 _ 231 [(2, 60, 0, 0, 0), (1, 0, (-2147483648), 2147483647, x7)] (xa_up (xa_up (xa_up M1 60 20 0) 74 0 x6) 60 20 1) _
        refine ct_tell (n := 1) (by first | rfl | (simp [xa_up]; done) | omega) (by omega) (by omega) ?_
        show xa_C xm_I A h0 _ 231 [(2, 60, 0, 0, 0), (1, 0, (-2147483648), 2147483647, x8)] (xa_up (xa_up (xa_up (xa_up (xa_up M1 60 20 0) 74 0 x6) 60 20 1) 74 1 x7) 60 20 2) _
        refine ct_tell (n := 2) (by first | rfl | (simp [xa_up]; done) | omega) (by omega) (by omega) ?_
        show post (some (0, 0, 0, 0, 0)) (xa_up (xa_up (xa_up (xa_up (xa_up (xa_up (xa_up M1 60 20 0) 74 0 x6) 60 20 1) 74 1 x7) 60 20 2) 74 2 x8) 60 20 3)
        exact k _ _ ⟨_, _, _, rfl, hS0⟩ (xm_cor_f (by omega) (xm_cor_a rfl (xm_cor_f (by omega) (xm_cor_a rfl (xm_cor_f (by omega) (xm_cor_a rfl (xm_cor_f (by omega) hc)))))))
      · intro (c1 : x9 ≤ 400)
        refine And.intro (show 0 ≤ ((401 * x5) + x9) ∧ ((401 * x5) + x9) < 5614 by omega) ?_
        refine And.intro ?_ ?_
        · intro (c2 : ¬ (M1 87 ((401 * x5) + x9)) = 0)
          refine And.intro ?_ ?_
          · intro (c3 : ¬ x6 = (-1))
            show Q 113 [(9, (0, 0, 1, 402, x9 + 1)), (8, (0, 0, (-2147483648), 2147483647, xa_w32 (x8 + 1))), (7, (0, 0, 0, 401, x9)), (6, (0, 0, (-2147483648), 2147483647, x6)), (5, (0, 0, 0, 13, x5)), (0, (2, 60, 0, 0, 0))] [] M1
            refine hgo.2.1 113 _ [(9, (0, 0, 0, 401, x9 + 1)), (8, (0, 0, (-2147483648), 2147483647, xa_w32 (x8 + 1))), (7, (0, 0, (-2147483648), 2147483647, x9)), (6, (0, 0, (-2147483648), 2147483647, x6)), (5, (0, 0, 0, 13, x5)), (0, (2, 60, 0, 0, 0))] _ _ (xa_subI rfl rfl (fun _ _ _ _ => by omega) (xa_subI rfl rfl (fun _ _ _ _ => by omega) (xa_subI rfl rfl (fun _ _ _ _ => by omega) (xa_subI rfl rfl (fun _ _ _ _ => by omega) (xa_subI rfl rfl (fun _ _ _ _ => by omega) (xa_subR rfl xa_sub0)))))) ?_
            exact ih1 (x9 + 1) (xa_w32 (x8 + 1)) x9 x6 x5 M1 (by omega) (by omega) hc hS0 (by omega)
          · intro (c3 : x6 = (-1))
            show Q 113 [(9, (0, 0, 1, 402, x9 + 1)), (8, (0, 0, (-2147483648), 2147483647, xa_w32 (x8 + 1))), (7, (0, 0, 0, 401, x9)), (6, (0, 0, 0, 401, x9)), (5, (0, 0, 0, 13, x5)), (0, (2, 60, 0, 0, 0))] [] M1
            refine hgo.2.1 113 _ [(9, (0, 0, 0, 401, x9 + 1)), (8, (0, 0, (-2147483648), 2147483647, xa_w32 (x8 + 1))), (7, (0, 0, (-2147483648), 2147483647, x9)), (6, (0, 0, (-2147483648), 2147483647, x9)), (5, (0, 0, 0, 13, x5)), (0, (2, 60, 0, 0, 0))] _ _ (xa_subI rfl rfl (fun _ _ _ _ => by omega) (xa_subI rfl rfl (fun _ _ _ _ => by omega) (xa_subI rfl rfl (fun _ _ _ _ => by omega) (xa_subI rfl rfl (fun _ _ _ _ => by omega) (xa_subI rfl rfl (fun _ _ _ _ => by omega) (xa_subR rfl xa_sub0)))))) ?_
            exact ih1 (x9 + 1) (xa_w32 (x8 + 1)) x9 x9 x5 M1 (by omega) (by omega) hc hS0 (by omega)
        · intro (c2 : (M1 87 ((401 * x5) + x9)) = 0)
          show Q 113 [(9, (0, 0, 1, 402, x9 + 1)), (8, (0, 0, (-2147483648), 2147483647, x8)), (7, (0, 0, (-2147483648), 2147483647, x7)), (6, (0, 0, (-2147483648), 2147483647, x6)), (5, (0, 0, 0, 13, x5)), (0, (2, 60, 0, 0, 0))] [] M1
          refine hgo.2.1 113 _ [(9, (0, 0, 0, 401, x9 + 1)), (8, (0, 0, (-2147483648), 2147483647, x8)), (7, (0, 0, (-2147483648), 2147483647, x7)), (6, (0, 0, (-2147483648), 2147483647, x6)), (5, (0, 0, 0, 13, x5)), (0, (2, 60, 0, 0, 0))] _ _ (xa_subI rfl rfl (fun _ _ _ _ => by omega) (xa_subI rfl rfl (fun _ _ _ _ => by omega) (xa_subI rfl rfl (fun _ _ _ _ => by omega) (xa_subI rfl rfl (fun _ _ _ _ => by omega) (xa_subI rfl rfl (fun _ _ _ _ => by omega) (xa_subR rfl xa_sub0)))))) ?_
          exact ih1 (x9 + 1) x8 x7 x6 x5 M1 (by omega) (by omega) hc hS0 (by omega)
  have loop0 : ∀ (n : Nat) (x6 x5 x4 : Int) (M1 : xa_M), 0 ≤ x6 ∧ x6 ≤ 14 → (-1) ≤ x5 ∧ x5 ≤ 13 → (-4) ≤ x4 ∧ x4 ≤ 0 → xm_cor M M1 → (x4 = 0 ∨ x4 = -4) → tk_S M a x2 x4 (M1 60 32) (M1 80) (M1 81) → ((x5 = -1 ∧ ∀ i, 0 ≤ i → i < x6 → ¬ M1 80 i = x3) ∨ (¬ x5 = -1 ∧ ∃ i, 0 ≤ i ∧ i < x6 ∧ M1 80 i = x3)) → (¬ x5 = -1 → ∃ i, 0 ≤ i ∧ i < x6 ∧ M1 80 i = x3) → x6 ≤ M1 60 32 → (x4 = 0 → xm_Y M1 ∧ 0 ≤ x2 ∧ x2 < M1 60 11) → 14 - x6 < (n : Int) → Q 35 [(6, (0, 0, 0, 14, x6)), (5, (0, 0, (-1), 13, x5)), (4, (0, 0, (-4), 0, x4)), (3, (0, 0, (-2147483648), 2147483647, x3)), (2, (0, 0, (-2147483648), 2147483647, x2)), (0, (2, 60, 0, 0, 0))] [] M1 := by
    intro n
    induction n with
    | zero => intro x6 x5 x4 M1 b6 b5 b4 hc h04 hSr hpl hpl2 hle hv0 hms; clear hpl hpl2; omega
    | succ n ih0 =>
      intro x6 x5 x4 M1 b6 b5 b4 hc h04 hSr hpl hpl2 hle hv0 hms0
      refine hgo.2.2 _ _ _ _ (fun hM1 _ => ?_)
      have b32 := xm_f32 hM1
      refine hgo.1 28 [35, 113] 35 _ _ _ ?_
      refine And.intro ?_ ?_
      · intro (c1 : (M1 60 32) ≤ x6)
        refine And.intro ?_ ?_
        · intro (c2 : ¬ x5 = (-1))
          have hpx : ∃ i, 0 ≤ i ∧ i < M1 60 32 ∧ M1 80 i = x3 := by
            obtain ⟨i, h1, h2, h3⟩ := hpl2 c2
            exact ⟨i, h1, by omega, h3⟩
          refine And.intro ?_ ?_
          · intro (c3 : 0 ≤ x4)
            show xa_C xm_I A h0 _ 246 [(2, 60, 0, 0, 0), (0, 0, (-2147483648), 2147483647, x2)] M1 _
            refine xa_C_mok (ct_countFitsF (xm_Inv_cor hc hI) (hv0 (by omega)).1 (by have q := (hv0 (by omega)).2; omega) (by have q := (hv0 (by omega)).2; omega) (fun M4 hc4 hq4 hM4 => ?_))
            refine And.intro ?_ ?_
            · intro (c5 : ¬ (M4 60 39) = 0)
              show Q 113 [(9, (0, 0, 0, 0, 0)), (8, (0, 0, 0, 0, 0)), (7, (0, 0, (-1), (-1), (-1))), (6, (0, 0, (-1), (-1), (-1))), (5, (0, 0, (-1), 13, x5)), (4, (0, 0, (-4), 0, x4)), (3, (0, 0, (-2147483648), 2147483647, x3)), (2, (0, 0, (-2147483648), 2147483647, x2)), (0, (2, 60, 0, 0, 0))] [] M4
              refine hgo.2.1 113 _ [(9, (0, 0, 0, 401, 0)), (8, (0, 0, (-2147483648), 2147483647, 0)), (7, (0, 0, (-2147483648), 2147483647, (-1))), (6, (0, 0, (-2147483648), 2147483647, (-1))), (5, (0, 0, 0, 13, x5)), (0, (2, 60, 0, 0, 0))] _ _ (xa_subI rfl rfl (fun _ _ _ _ => by omega) (xa_subI rfl rfl (fun _ _ _ _ => by omega) (xa_subI rfl rfl (fun _ _ _ _ => by omega) (xa_subI rfl rfl (fun _ _ _ _ => by omega) (xa_subI rfl rfl (fun _ _ _ _ => by omega) (xa_subR rfl xa_sub0)))))) ?_
              have e0 : x4 = 0 := by omega
              obtain ⟨Mr, hKr, hq⟩ := hq4
              obtain ⟨eL, eH, e81, e32, e71, e70⟩ := fr_L_k hKr
              obtain ⟨eF, ep, -, -⟩ := fm_e hc (p := x2)
              have eFr : fr_F Mr x2 = fr_F M1 x2 := by
                unfold fr_F
                rw [eL, eH, e81, e32, e71, e70]
              rw [eFr, eL, eH, e32, eF, ep] at hq
              have hcb := fs_cb (F := tk_F M (M1 60 32) (M1 80) (M1 81) x2) (tk_pr M (M1 60 32) (M1 80)).toNat
              exact loop1 402 0 0 (-1) (-1) x5 M4 (by omega) (by omega) (xm_cor_t hc hc4) ⟨0, _, _, _, by rw [← e0]; exact hSr, Or.inr ⟨Or.inl rfl, Or.inr ⟨hpx, Or.inr ⟨rfl, Or.inr ⟨by omega, rfl⟩⟩⟩⟩⟩ (by omega)
            · intro (c5 : (M4 60 39) = 0)
              show post (some (0, 0, (-2), (-2), (-2))) M4
              have e0 : x4 = 0 := by omega
              obtain ⟨Mr, hKr, hq⟩ := hq4
              obtain ⟨eL, eH, e81, e32, e71, e70⟩ := fr_L_k hKr
              obtain ⟨eF, ep, -, -⟩ := fm_e hc (p := x2)
              have eFr : fr_F Mr x2 = fr_F M1 x2 := by
                unfold fr_F
                rw [eL, eH, e81, e32, e71, e70]
              rw [eFr, eL, eH, e32, eF, ep] at hq
              have hcb := fs_cb (F := tk_F M (M1 60 32) (M1 80) (M1 81) x2) (tk_pr M (M1 60 32) (M1 80)).toNat
              exact k _ _ ⟨_, _, _, rfl, 0, _, _, _, by rw [← e0]; exact hSr, Or.inr ⟨Or.inl rfl, Or.inr ⟨hpx, Or.inr ⟨rfl, Or.inl ⟨by omega, rfl⟩⟩⟩⟩⟩ (xm_cor_t hc hc4)
          · intro (c3 : x4 < 0)
            show post (some (0, 0, (-4), 0, x4)) M1
            exact k _ _ ⟨_, _, _, rfl, x4, _, _, _, hSr, Or.inr ⟨h04, Or.inr ⟨hpx, Or.inl ⟨by rcases h04 with e | e; exact absurd e (Int.ne_of_lt (by assumption)); exact e, by rcases h04 with e | e; exact absurd e (Int.ne_of_lt (by assumption)); exact e⟩⟩⟩⟩ hc
        · intro (c2 : x5 = (-1))
          show post (some (0, 0, (-1), (-1), (-1))) M1
          rcases hpl with ⟨-, h⟩ | h
          · exact k _ _ ⟨_, _, _, rfl, x4, _, _, _, hSr, Or.inr ⟨h04, Or.inl ⟨fun i i0 i1 => h i i0 (by omega), rfl⟩⟩⟩ hc
          · exact absurd c2 h.1
      · intro (c1 : x6 < (M1 60 32))
        refine And.intro (show 0 ≤ x6 ∧ x6 < 14 by omega) ?_
        refine And.intro ?_ ?_
        · intro (c6 : ¬ (M1 80 x6) = x3)
          show Q 35 [(6, (0, 0, 1, 15, x6 + 1)), (5, (0, 0, (-1), 13, x5)), (4, (0, 0, (-4), 0, x4)), (3, (0, 0, (-2147483648), 2147483647, x3)), (2, (0, 0, (-2147483648), 2147483647, x2)), (0, (2, 60, 0, 0, 0))] [] M1
          refine hgo.2.1 35 _ [(6, (0, 0, 0, 14, x6 + 1)), (5, (0, 0, (-1), 13, x5)), (4, (0, 0, (-4), 0, x4)), (3, (0, 0, (-2147483648), 2147483647, x3)), (2, (0, 0, (-2147483648), 2147483647, x2)), (0, (2, 60, 0, 0, 0))] _ _ (xa_subI rfl rfl (fun _ _ _ _ => by omega) (xa_subI rfl rfl (fun _ _ _ _ => by omega) (xa_subI rfl rfl (fun _ _ _ _ => by omega) (xa_subI rfl rfl (fun _ _ _ _ => by omega) (xa_subI rfl rfl (fun _ _ _ _ => by omega) (xa_subR rfl xa_sub0)))))) ?_
          exact ih0 (x6 + 1) x5 x4 M1 (by omega) (by omega) (by omega) hc h04 hSr (by
            rcases hpl with ⟨e, h⟩ | ⟨e, i, h1, h2, h3⟩
            · refine Or.inl ⟨e, fun i i0 i1 => ?_⟩
              by_cases q : i = x6
              · rw [q]
                exact c6
              · exact h i i0 (by omega)
            · exact Or.inr ⟨e, i, h1, by omega, h3⟩) (fun h => by
            obtain ⟨i, h1, h2, h3⟩ := hpl2 h
            exact ⟨i, h1, by omega, h3⟩) (by omega) hv0 (by omega)
        · intro (c6 : (M1 80 x6) = x3)
          show Q 35 [(6, (0, 0, 1, 15, x6 + 1)), (5, (0, 0, 0, 14, x6)), (4, (0, 0, (-4), 0, x4)), (3, (0, 0, (-2147483648), 2147483647, x3)), (2, (0, 0, (-2147483648), 2147483647, x2)), (0, (2, 60, 0, 0, 0))] [] M1
          refine hgo.2.1 35 _ [(6, (0, 0, 0, 14, x6 + 1)), (5, (0, 0, (-1), 13, x6)), (4, (0, 0, (-4), 0, x4)), (3, (0, 0, (-2147483648), 2147483647, x3)), (2, (0, 0, (-2147483648), 2147483647, x2)), (0, (2, 60, 0, 0, 0))] _ _ (xa_subI rfl rfl (fun _ _ _ _ => by omega) (xa_subI rfl rfl (fun _ _ _ _ => by omega) (xa_subI rfl rfl (fun _ _ _ _ => by omega) (xa_subI rfl rfl (fun _ _ _ _ => by omega) (xa_subI rfl rfl (fun _ _ _ _ => by omega) (xa_subR rfl xa_sub0)))))) ?_
          exact ih0 (x6 + 1) x6 x4 M1 (by omega) (by omega) (by omega) hc h04 hSr (Or.inr ⟨by omega, x6, b6.1, by omega, c6⟩) (fun _ => ⟨x6, b6.1, by omega, c6⟩) (by omega) hv0 (by omega)
  refine hgo.1 23 [35, 113] 0 _ _ _ ?_
  show xa_C xm_I A h0 _ 238 [(2, 60, 0, 0, 0), (0, 0, (-2147483648), 2147483647, a), (0, 0, (-2147483648), 2147483647, x2)] (xa_up M 60 21 0) _
  refine xa_C_mok (ct_readyF (xm_Inv_cor (xm_cor_f (by omega) xm_cor_r) hI) (fun v1 M1 z1 hc1 hr1 hq1 hM1 => ?_))
  have hS := rd_S hTM (xm_cor_f (by omega) xm_cor_r) hc1 hM1 hq1
  refine And.intro ?_ ?_
  · intro (c2 : v1 = (-1))
    show post (some (0, 0, (-4), 0, v1)) M1
    exact k _ _ ⟨_, _, _, rfl, v1, _, _, _, hS, Or.inl ⟨by omega, rfl⟩⟩ (xm_cor_t (xm_cor_f (by omega) xm_cor_r) hc1)
  · intro (c2 : ¬ v1 = (-1))
    refine And.intro ?_ ?_
    · intro (c3 : ¬ v1 = (-2))
      show Q 35 [(6, (0, 0, 0, 0, 0)), (5, (0, 0, (-1), (-1), (-1))), (4, (0, 0, (-4), 0, v1)), (0, (2, 60, 0, 0, 0)), (1, (0, 0, (-2147483648), 2147483647, a)), (2, (0, 0, (-2147483648), 2147483647, x2)), (3, (0, 0, (-2147483648), 2147483647, x3))] [] M1
      refine hgo.2.1 35 _ [(6, (0, 0, 0, 14, 0)), (5, (0, 0, (-1), 13, (-1))), (4, (0, 0, (-4), 0, v1)), (3, (0, 0, (-2147483648), 2147483647, x3)), (2, (0, 0, (-2147483648), 2147483647, x2)), (0, (2, 60, 0, 0, 0))] _ _ (xa_subI rfl rfl (fun _ _ _ _ => by omega) (xa_subI rfl rfl (fun _ _ _ _ => by omega) (xa_subI rfl rfl (fun _ _ _ _ => by omega) (xa_subI rfl rfl (fun _ _ _ _ => by omega) (xa_subI rfl rfl (fun _ _ _ _ => by omega) (xa_subR rfl xa_sub0)))))) ?_
      exact loop0 15 0 (-1) v1 M1 (by omega) (by omega) (by omega) (xm_cor_t (xm_cor_f (by omega) xm_cor_r) hc1) (by omega) hS (Or.inl ⟨rfl, fun i i0 i1 => by omega⟩) (fun h => absurd rfl h) (xm_f32 hM1).1 (fun h => ⟨⟨(hr1 h).1, (hr1 h).2.1⟩, by have q := (hr1 h).2.2; have e := xm_corf (xm_cor_t (xm_cor_f (by omega) xm_cor_r) hc1) 11 (by omega); simp [xa_up] at q; omega⟩) (by omega)
    · intro (c3 : v1 = (-2))
      show post (some (0, 0, (-4), 0, v1)) M1
      exact k _ _ ⟨_, _, _, rfl, v1, _, _, _, hS, Or.inl ⟨by omega, rfl⟩⟩ (xm_cor_t (xm_cor_f (by omega) xm_cor_r) hc1)

