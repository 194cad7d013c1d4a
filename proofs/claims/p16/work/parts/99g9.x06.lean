-- doubles: how near a rounded number is (isFitting's first loop)
set_option maxRecDepth 20000
theorem fx_near (n d : Nat) (hd : 0 < d) : 2 * n ≤ 2 * (FP.Core.nearest n d * d) + d ∧ 2 * (FP.Core.nearest n d * d) ≤ 2 * n + d := by
  have e := Nat.div_add_mod n d
  have l := Nat.mod_lt n hd
  have c : d * (n / d) = n / d * d := Nat.mul_comm _ _
  unfold FP.Core.nearest
  split
  · omega
  · split
    · rw [Nat.add_mul, Nat.one_mul]
      omega
    · have h2 : n / d % 2 = 0 ∨ n / d % 2 = 1 := by omega
      rcases h2 with h2 | h2
      · rw [h2, Nat.add_zero]
        omega
      · rw [h2, Nat.add_mul, Nat.one_mul]
        omega
/-- 2 to a power, moved so that it is whole -/
def fx_2 (e : Int) : Nat := 2 ^ (e + 1200).toNat
theorem fx_2a {e f : Int} (he : -1200 ≤ e) (hf : 0 ≤ f) : fx_2 (e + f) = fx_2 e * 2 ^ f.toNat := by
  unfold fx_2
  rw [show (e + f + 1200).toNat = (e + 1200).toNat + f.toNat by omega, Nat.pow_add]
theorem fx_2p (e : Int) : 0 < fx_2 e := Nat.two_pow_pos _
/-- the leading digit -/
theorem fx_lead {num den : Nat} (hn : 0 < num) (hd : 0 < den) : den * 2 ^ (FP.Core.leading num den).toNat ≤ num * 2 ^ (-(FP.Core.leading num den)).toNat ∧ num * 2 ^ (-(FP.Core.leading num den + 1)).toNat < den * 2 ^ (FP.Core.leading num den + 1).toNat := by
  have n1 := Nat.log2_self_le (show num ≠ 0 by omega)
  have n2 := Nat.lt_log2_self (n := num)
  have d1 := Nat.log2_self_le (show den ≠ 0 by omega)
  have d2 := Nat.lt_log2_self (n := den)
  unfold FP.Core.leading
  generalize num.log2 = a at n1 n2 ⊢
  generalize den.log2 = b at d1 d2 ⊢
  have up : ∀ k : Int, k = (a : Int) - (b : Int) → num * 2 ^ (-(k + 1)).toNat < den * 2 ^ (k + 1).toNat := by
    intro k hk
    have m1 : num * 2 ^ (-(k + 1)).toNat < 2 ^ (a + 1) * 2 ^ (-(k + 1)).toNat := Nat.mul_lt_mul_of_pos_right n2 (Nat.two_pow_pos _)
    have m2 : 2 ^ b * 2 ^ (k + 1).toNat ≤ den * 2 ^ (k + 1).toNat := Nat.mul_le_mul_right _ d1
    rw [← Nat.pow_add] at m1 m2
    have e : a + 1 + (-(k + 1)).toNat = b + (k + 1).toNat := by omega
    rw [e] at m1
    exact Nat.lt_of_lt_of_le m1 m2
  show den * 2 ^ (if den * 2 ^ ((a : Int) - (b : Int)).toNat ≤ num * 2 ^ (-((a : Int) - (b : Int))).toNat then (a : Int) - (b : Int) else (a : Int) - (b : Int) - 1).toNat ≤ num * 2 ^ (-(if den * 2 ^ ((a : Int) - (b : Int)).toNat ≤ num * 2 ^ (-((a : Int) - (b : Int))).toNat then (a : Int) - (b : Int) else (a : Int) - (b : Int) - 1)).toNat ∧ num * 2 ^ (-((if den * 2 ^ ((a : Int) - (b : Int)).toNat ≤ num * 2 ^ (-((a : Int) - (b : Int))).toNat then (a : Int) - (b : Int) else (a : Int) - (b : Int) - 1) + 1)).toNat < den * 2 ^ ((if den * 2 ^ ((a : Int) - (b : Int)).toNat ≤ num * 2 ^ (-((a : Int) - (b : Int))).toNat then (a : Int) - (b : Int) else (a : Int) - (b : Int) - 1) + 1).toNat
  by_cases c : den * 2 ^ ((a : Int) - (b : Int)).toNat ≤ num * 2 ^ (-((a : Int) - (b : Int))).toNat
  · rw [if_pos c]
    exact ⟨c, up _ rfl⟩
  · rw [if_neg c]
    refine ⟨?_, ?_⟩
    · have m1 : den * 2 ^ ((a : Int) - (b : Int) - 1).toNat ≤ 2 ^ (b + 1) * 2 ^ ((a : Int) - (b : Int) - 1).toNat := Nat.mul_le_mul_right _ (Nat.le_of_lt d2)
      have m2 : 2 ^ a * 2 ^ (-((a : Int) - (b : Int) - 1)).toNat ≤ num * 2 ^ (-((a : Int) - (b : Int) - 1)).toNat := Nat.mul_le_mul_right _ n1
      rw [← Nat.pow_add] at m1 m2
      have e : b + 1 + ((a : Int) - (b : Int) - 1).toNat = a + (-((a : Int) - (b : Int) - 1)).toNat := by omega
      rw [e] at m1
      exact Nat.le_trans m1 m2
    · rw [show (a : Int) - (b : Int) - 1 + 1 = (a : Int) - (b : Int) by omega]
      exact Nat.lt_of_not_le c
/-- a number c times 2 to the q is num / den times 2 to the e, but for one part in 2 to the 53 -/
def fx_A (num den : Nat) (e : Int) (c : Nat) (q : Int) : Prop := num * fx_2 e * (9007199254740992 - 1) ≤ c * fx_2 q * den * 9007199254740992 ∧ c * fx_2 q * den * 9007199254740992 ≤ num * fx_2 e * (9007199254740992 + 1)
theorem fx_rnd {num den : Nat} {e : Int} {s : Bool} (hn : 0 < num) (hd : 0 < den) (he : -1000 ≤ e ∧ e ≤ 900) (hl : -1000 ≤ FP.Core.leading num den + e ∧ FP.Core.leading num den + e ≤ 900) : ∃ c q, FP.Core.roundRatio FP.Core.b64 s num den e = .fin s c q ∧ 4503599627370496 ≤ c ∧ c < 9007199254740992 ∧ (FP.Core.leading num den + e - 52 ≤ q ∧ q ≤ FP.Core.leading num den + e - 51) ∧ fx_A num den e c q := by
  have e1 : FP.Core.Fmt.qmin FP.Core.b64 = -1074 := by decide
  have e2 : FP.Core.Fmt.tails FP.Core.b64 = 4503599627370496 := by decide
  have e3 : FP.Core.Fmt.qmax FP.Core.b64 = 971 := by decide
  have e4 : (2 : Nat) ^ FP.Core.b64.p = 9007199254740992 := by decide
  have e5 : ((FP.Core.b64.p : Nat) : Int) = 53 := by decide
  obtain ⟨l1, l2⟩ := fx_lead hn hd
  obtain ⟨L, hL⟩ : ∃ L, L = FP.Core.leading num den := ⟨_, rfl⟩
  rw [← hL] at l1 l2 hl ⊢
  have hq : FP.Core.quantum FP.Core.b64 num den e = L + e - 52 := by
    unfold FP.Core.quantum
    rw [e1, e5, ← hL]
    omega
  obtain ⟨q, hq9⟩ : ∃ q, q = L + e - 52 := ⟨_, rfl⟩
  rw [← hq9] at hq ⊢
  -- the units
  obtain ⟨u, hu⟩ : ∃ u, u = num * 2 ^ (e - q).toNat := ⟨_, rfl⟩
  obtain ⟨w, hw⟩ : ∃ w, w = den * 2 ^ (q - e).toNat := ⟨_, rfl⟩
  have w0 : 0 < w := by rw [hw]; exact Nat.mul_pos hd (Nat.two_pow_pos _)
  obtain ⟨n1, n2⟩ := fx_near u w w0
  obtain ⟨r, hr⟩ : ∃ r, r = FP.Core.nearest u w := ⟨_, rfl⟩
  rw [← hr] at n1 n2
  -- from units to what is moved
  obtain ⟨Z, hZ⟩ : ∃ Z : Nat, Z = 2 ^ (min e q + 1200).toNat := ⟨_, rfl⟩
  have z0 : 0 < Z := by rw [hZ]; exact Nat.two_pow_pos _
  have hu2 : num * fx_2 e = u * Z := by
    rw [hu, hZ, Nat.mul_assoc, ← Nat.pow_add]
    unfold fx_2
    rw [show (e + 1200).toNat = (e - q).toNat + (min e q + 1200).toNat by omega]
  have hw2 : fx_2 q * den = w * Z := by
    rw [hw, hZ, Nat.mul_assoc, ← Nat.pow_add, Nat.mul_comm]
    unfold fx_2
    rw [show (q + 1200).toNat = (q - e).toNat + (min e q + 1200).toNat by omega]
  -- between 2 to the 52 and 2 to the 53 units
  have g1 : w * 4503599627370496 ≤ u := by
    rw [hu, hw, show (4503599627370496 : Nat) = 2 ^ 52 from rfl, Nat.mul_assoc, ← Nat.pow_add]
    have t1 : den * 2 ^ L.toNat * 2 ^ (600 + (q - e).toNat + 52) ≤ num * 2 ^ (-L).toNat * 2 ^ (600 + (q - e).toNat + 52) := Nat.mul_le_mul_right _ l1
    rw [Nat.mul_assoc, Nat.mul_assoc, ← Nat.pow_add, ← Nat.pow_add] at t1
    refine Nat.le_of_mul_le_mul_right (c := 2 ^ (L.toNat + 600)) ?_ (Nat.two_pow_pos _)
    rw [Nat.mul_assoc, Nat.mul_assoc, ← Nat.pow_add, ← Nat.pow_add, show (q - e).toNat + 52 + (L.toNat + 600) = L.toNat + (600 + (q - e).toNat + 52) by omega, show (e - q).toNat + (L.toNat + 600) = (-L).toNat + (600 + (q - e).toNat + 52) by omega]
    exact t1
  have g2 : u < w * 9007199254740992 := by
    rw [hu, hw, show (9007199254740992 : Nat) = 2 ^ 53 from rfl, Nat.mul_assoc, ← Nat.pow_add]
    have t1 : num * 2 ^ (-(L + 1)).toNat * 2 ^ (600 + (q - e).toNat + 53) < den * 2 ^ (L + 1).toNat * 2 ^ (600 + (q - e).toNat + 53) := Nat.mul_lt_mul_of_pos_right l2 (Nat.two_pow_pos _)
    rw [Nat.mul_assoc, Nat.mul_assoc, ← Nat.pow_add, ← Nat.pow_add] at t1
    refine Nat.lt_of_mul_lt_mul_right (a := 2 ^ ((L + 1).toNat + 600)) ?_
    rw [Nat.mul_assoc, Nat.mul_assoc, ← Nat.pow_add, ← Nat.pow_add, show (q - e).toNat + 53 + ((L + 1).toNat + 600) = (L + 1).toNat + (600 + (q - e).toNat + 53) by omega, show (e - q).toNat + ((L + 1).toNat + 600) = (-(L + 1)).toNat + (600 + (q - e).toNat + 53) by omega]
    exact t1
  have r1 : 4503599627370496 ≤ r := by
    refine Nat.le_of_not_lt (fun h => ?_)
    have m := Nat.mul_le_mul_right w (show r + 1 ≤ 4503599627370496 from h)
    rw [Nat.add_mul, Nat.one_mul] at m
    have m2 := Nat.mul_comm w 4503599627370496
    omega
  have r2 : r ≤ 9007199254740992 := by
    refine Nat.le_of_not_lt (fun h => ?_)
    have m := Nat.mul_le_mul_right w (show 9007199254740992 + 1 ≤ r from h)
    rw [Nat.add_mul, Nat.one_mul] at m
    have m2 := Nat.mul_comm w 9007199254740992
    omega
  -- how near
  have p1 : 2 * (u * Z) ≤ 2 * (r * (w * Z)) + w * Z := by
    have m := Nat.mul_le_mul_right Z n1
    rw [Nat.add_mul, Nat.mul_assoc, Nat.mul_assoc, Nat.mul_assoc] at m
    exact m
  have p2 : 2 * (r * (w * Z)) ≤ 2 * (u * Z) + w * Z := by
    have m := Nat.mul_le_mul_right Z n2
    rw [Nat.add_mul, Nat.mul_assoc, Nat.mul_assoc, Nat.mul_assoc] at m
    exact m
  have p3 : w * Z * 4503599627370496 ≤ u * Z := by
    have m := Nat.mul_le_mul_right Z g1
    rw [Nat.mul_assoc, Nat.mul_comm 4503599627370496 Z, ← Nat.mul_assoc] at m
    exact m
  have hA : fx_A num den e r q := by
    unfold fx_A
    rw [hu2, Nat.mul_assoc r, hw2]
    generalize u * Z = U at p1 p2 p3 ⊢
    generalize w * Z = W at p1 p2 p3 ⊢
    generalize r * W = RW at p1 p2 ⊢
    omega
  have hrr : FP.Core.roundRatio FP.Core.b64 s num den e = FP.Core.settle FP.Core.b64 s r q := by
    unfold FP.Core.roundRatio
    rw [if_neg (by omega), hq]
    unfold FP.Core.roundAt FP.Core.unitsNum FP.Core.unitsDen
    rw [← hu, ← hw, ← hr]
  rw [hrr]
  unfold FP.Core.settle FP.Core.bound
  rw [e2, e3, e4]
  by_cases c : r < 9007199254740992
  · rw [if_pos c, if_pos (by omega)]
    exact ⟨r, q, rfl, r1, c, by omega, hA⟩
  · rw [if_neg c, if_pos (by omega)]
    refine ⟨4503599627370496, q + 1, rfl, by omega, by omega, by omega, ?_⟩
    have er : r = 9007199254740992 := by omega
    unfold fx_A at hA ⊢
    rw [er] at hA
    rw [fx_2a (e := q) (f := 1) (by omega) (by decide)]
    have e9 : 4503599627370496 * (fx_2 q * 2 ^ (1 : Int).toNat) = 9007199254740992 * fx_2 q := by
      show 4503599627370496 * (fx_2 q * 2) = _
      omega
    rw [e9]
    exact hA
-- doubles: the chain of products and quotients
set_option maxRecDepth 20000
/-- c times 2 to the q is N / D, but for k steps' errors -/
def fx_B (N D k c : Nat) (q : Int) : Prop := N * fx_2 0 * 9007199254740991 ^ k ≤ c * fx_2 q * D * 9007199254740992 ^ k ∧ c * fx_2 q * D * 9007199254740992 ^ k ≤ N * fx_2 0 * 9007199254740993 ^ k
theorem fx_add {q r : Int} (hq : -1200 ≤ q) (hr : -1200 ≤ r) (hs : -1200 ≤ q + r) : fx_2 (q + r) * fx_2 0 = fx_2 q * fx_2 r := by
  unfold fx_2
  rw [← Nat.pow_add, ← Nat.pow_add, show (q + r + 1200).toNat + (0 + 1200 : Int).toNat = (q + 1200).toNat + (r + 1200).toNat by omega]
theorem fx_sub {q r : Int} (hq : -1200 ≤ q) (hr : -1200 ≤ r) (hs : -1200 ≤ q - r) : fx_2 (q - r) * fx_2 r = fx_2 q * fx_2 0 := by
  have h := fx_add (q := q - r) (r := r) hs hr (by omega)
  rw [show q - r + r = q by omega] at h
  exact h.symm
theorem fx_int {n c : Nat} {q : Int} (h : fx_A n 1 0 c q) : fx_B n 1 1 c q := by
  unfold fx_A at h
  unfold fx_B
  rw [Nat.pow_one, Nat.pow_one, Nat.pow_one]
  exact h
theorem fx_mul {N D k c n d c' : Nat} {q r q' : Int} (hq : -1200 ≤ q) (hr : -1200 ≤ r) (hs : -1200 ≤ q + r) (h1 : fx_B N D k c q) (h2 : fx_B n 1 1 d r) (h3 : fx_A (c * d) 1 (q + r) c' q') : fx_B (N * n) D (k + 2) c' q' := by
  have e := fx_add hq hr hs
  have z := fx_2p 0
  unfold fx_B at h1 h2 ⊢
  unfold fx_A at h3
  obtain ⟨a1, a2⟩ := h1
  obtain ⟨b1, b2⟩ := h2
  obtain ⟨f1, f2⟩ := h3
  rw [Nat.pow_one, Nat.pow_one, Nat.mul_one] at b1
  rw [Nat.pow_one, Nat.pow_one, Nat.mul_one] at b2
  rw [Nat.mul_one, show 9007199254740992 - 1 = 9007199254740991 from rfl] at f1
  rw [Nat.mul_one, show 9007199254740992 + 1 = 9007199254740993 from rfl] at f2
  generalize fx_2 0 = Z at e z a1 a2 b1 b2 ⊢
  generalize fx_2 q = Q at e a1 a2
  generalize fx_2 r = R at e b1 b2
  generalize fx_2 (q + r) = G at e f1 f2
  generalize fx_2 q' = Q' at f1 f2 ⊢
  -- the exact product, moved
  have x1 : c * d * G * Z = c * Q * (d * R) := by
    rw [Nat.mul_assoc (c * d), e]
    simp only [Nat.mul_assoc, Nat.mul_left_comm]
  refine ⟨?_, ?_⟩
  · refine Nat.le_of_mul_le_mul_right (c := Z) ?_ z
    have m1 := Nat.mul_le_mul a1 b1
    have m2 := Nat.mul_le_mul_right 9007199254740991 m1
    have m3 := Nat.mul_le_mul_right (D * 9007199254740992 ^ k * 9007199254740992 * Z) f1
    have y1 : N * n * Z * 9007199254740991 ^ (k + 2) * Z = N * Z * 9007199254740991 ^ k * (n * Z * 9007199254740991) * 9007199254740991 := by
      rw [Nat.pow_succ, Nat.pow_succ]
      simp only [Nat.mul_assoc, Nat.mul_left_comm, Nat.mul_comm]
    have y2 : c * Q * D * 9007199254740992 ^ k * (d * R * 9007199254740992) * 9007199254740991 = c * d * G * 9007199254740991 * (D * 9007199254740992 ^ k * 9007199254740992 * Z) := by
      have y3 : c * d * G * 9007199254740991 * (D * 9007199254740992 ^ k * 9007199254740992 * Z) = c * d * G * Z * (9007199254740991 * (D * 9007199254740992 ^ k * 9007199254740992)) := by
        simp only [Nat.mul_assoc, Nat.mul_left_comm, Nat.mul_comm]
      rw [y3, x1]
      simp only [Nat.mul_assoc, Nat.mul_left_comm, Nat.mul_comm]
    have y4 : c' * Q' * D * 9007199254740992 ^ (k + 2) * Z = c' * Q' * 9007199254740992 * (D * 9007199254740992 ^ k * 9007199254740992 * Z) := by
      rw [Nat.pow_succ, Nat.pow_succ]
      simp only [Nat.mul_assoc, Nat.mul_left_comm, Nat.mul_comm]
    rw [y1, y4]
    exact Nat.le_trans m2 (by rw [y2]; exact m3)
  · refine Nat.le_of_mul_le_mul_right (c := Z) ?_ z
    have m1 := Nat.mul_le_mul a2 b2
    have m2 := Nat.mul_le_mul_right 9007199254740993 m1
    have m3 := Nat.mul_le_mul_right (D * 9007199254740992 ^ k * 9007199254740992 * Z) f2
    have y1 : N * n * Z * 9007199254740993 ^ (k + 2) * Z = N * Z * 9007199254740993 ^ k * (n * Z * 9007199254740993) * 9007199254740993 := by
      rw [Nat.pow_succ, Nat.pow_succ]
      simp only [Nat.mul_assoc, Nat.mul_left_comm, Nat.mul_comm]
    have y2 : c * Q * D * 9007199254740992 ^ k * (d * R * 9007199254740992) * 9007199254740993 = c * d * G * 9007199254740993 * (D * 9007199254740992 ^ k * 9007199254740992 * Z) := by
      have y3 : c * d * G * 9007199254740993 * (D * 9007199254740992 ^ k * 9007199254740992 * Z) = c * d * G * Z * (9007199254740993 * (D * 9007199254740992 ^ k * 9007199254740992)) := by
        simp only [Nat.mul_assoc, Nat.mul_left_comm, Nat.mul_comm]
      rw [y3, x1]
      simp only [Nat.mul_assoc, Nat.mul_left_comm, Nat.mul_comm]
    have y4 : c' * Q' * D * 9007199254740992 ^ (k + 2) * Z = c' * Q' * 9007199254740992 * (D * 9007199254740992 ^ k * 9007199254740992 * Z) := by
      rw [Nat.pow_succ, Nat.pow_succ]
      simp only [Nat.mul_assoc, Nat.mul_left_comm, Nat.mul_comm]
    rw [y1, y4]
    exact Nat.le_trans m3 (by rw [← y2]; exact m2)
theorem fx_div {N D k c n d c' : Nat} {q r q' : Int} (hq : -1200 ≤ q) (hr : -1200 ≤ r) (hs : -1200 ≤ q - r) (h1 : fx_B N D k c q) (h2 : fx_B n 1 1 d r) (h3 : fx_A c d (q - r) c' q') : fx_B N (D * n) (k + 3) c' q' := by
  have e := fx_sub hq hr hs
  have z := fx_2p 0
  unfold fx_B at h1 h2 ⊢
  unfold fx_A at h3
  obtain ⟨a1, a2⟩ := h1
  obtain ⟨b1, b2⟩ := h2
  obtain ⟨f1, f2⟩ := h3
  rw [Nat.pow_one, Nat.pow_one, Nat.mul_one] at b1
  rw [Nat.pow_one, Nat.pow_one, Nat.mul_one] at b2
  rw [show 9007199254740992 - 1 = 9007199254740991 from rfl] at f1
  rw [show 9007199254740992 + 1 = 9007199254740993 from rfl] at f2
  generalize fx_2 0 = Z at e z a1 a2 b1 b2 ⊢
  generalize fx_2 q = Q at e a1 a2
  generalize fx_2 r = R at e b1 b2
  generalize fx_2 (q - r) = G at e f1 f2
  generalize fx_2 q' = Q' at f1 f2 ⊢
  generalize hA : (9007199254740991 : Nat) = A at a1 b1 f1 ⊢
  generalize hB : (9007199254740992 : Nat) = B at a1 a2 b1 b2 f1 f2 ⊢
  generalize hC : (9007199254740993 : Nat) = C at a2 b2 f2 ⊢
  have k1 : A * A * C ≤ B * B * B := by rw [← hA, ← hB, ← hC]; decide
  have k2 : B * B * B ≤ C * C * A := by rw [← hA, ← hB, ← hC]; decide
  have zA : 0 < A := by rw [← hA]; decide
  have zC : 0 < C := by rw [← hC]; decide
  refine ⟨?_, ?_⟩
  · refine Nat.le_of_mul_le_mul_right (c := Z * C) ?_ (Nat.mul_pos z zC)
    have m1 := Nat.mul_le_mul_right (c' * Q' * D * (B ^ k * B * B * B)) b2
    have m2 := Nat.mul_le_mul_right (D * R * (B ^ k * B * B * B)) f1
    have m3 := Nat.mul_le_mul_right (Z * A * (B * B * B)) a1
    have m4 := Nat.mul_le_mul_left (N * Z * A ^ k * Z * A) k1
    have y1 : N * Z * A ^ (k + 3) * (Z * C) = N * Z * A ^ k * Z * A * (A * A * C) := by
      rw [Nat.pow_succ, Nat.pow_succ, Nat.pow_succ]
      simp only [Nat.mul_assoc, Nat.mul_left_comm, Nat.mul_comm]
    have y2 : N * Z * A ^ k * Z * A * (B * B * B) = N * Z * A ^ k * (Z * A * (B * B * B)) := by
      simp only [Nat.mul_assoc]
    have y3 : c * Q * D * B ^ k * (Z * A * (B * B * B)) = c * G * A * (D * R * (B ^ k * B * B * B)) := by
      have t : c * G * A * (D * R * (B ^ k * B * B * B)) = c * (G * R) * (A * (D * (B ^ k * B * B * B))) := by
        simp only [Nat.mul_assoc, Nat.mul_left_comm, Nat.mul_comm]
      rw [t, e]
      simp only [Nat.mul_assoc, Nat.mul_left_comm, Nat.mul_comm]
    have y4 : c' * Q' * d * B * (D * R * (B ^ k * B * B * B)) = d * R * B * (c' * Q' * D * (B ^ k * B * B * B)) := by
      simp only [Nat.mul_assoc, Nat.mul_left_comm, Nat.mul_comm]
    have y5 : c' * Q' * (D * n) * B ^ (k + 3) * (Z * C) = n * Z * C * (c' * Q' * D * (B ^ k * B * B * B)) := by
      rw [Nat.pow_succ, Nat.pow_succ, Nat.pow_succ]
      simp only [Nat.mul_assoc, Nat.mul_left_comm, Nat.mul_comm]
    rw [y1, y5]
    refine Nat.le_trans m4 ?_
    rw [y2]
    refine Nat.le_trans m3 ?_
    rw [y3]
    refine Nat.le_trans m2 ?_
    rw [y4]
    exact m1
  · refine Nat.le_of_mul_le_mul_right (c := Z * A) ?_ (Nat.mul_pos z zA)
    have m1 := Nat.mul_le_mul_right (c' * Q' * D * (B ^ k * B * B * B)) b1
    have m2 := Nat.mul_le_mul_right (D * R * (B ^ k * B * B * B)) f2
    have m3 := Nat.mul_le_mul_right (Z * C * (B * B * B)) a2
    have m4 := Nat.mul_le_mul_left (N * Z * C ^ k * Z * C) k2
    have y1 : N * Z * C ^ (k + 3) * (Z * A) = N * Z * C ^ k * Z * C * (C * C * A) := by
      rw [Nat.pow_succ, Nat.pow_succ, Nat.pow_succ]
      simp only [Nat.mul_assoc, Nat.mul_left_comm, Nat.mul_comm]
    have y2 : N * Z * C ^ k * Z * C * (B * B * B) = N * Z * C ^ k * (Z * C * (B * B * B)) := by
      simp only [Nat.mul_assoc]
    have y3 : c * Q * D * B ^ k * (Z * C * (B * B * B)) = c * G * C * (D * R * (B ^ k * B * B * B)) := by
      have t : c * G * C * (D * R * (B ^ k * B * B * B)) = c * (G * R) * (C * (D * (B ^ k * B * B * B))) := by
        simp only [Nat.mul_assoc, Nat.mul_left_comm, Nat.mul_comm]
      rw [t, e]
      simp only [Nat.mul_assoc, Nat.mul_left_comm, Nat.mul_comm]
    have y4 : c' * Q' * d * B * (D * R * (B ^ k * B * B * B)) = d * R * B * (c' * Q' * D * (B ^ k * B * B * B)) := by
      simp only [Nat.mul_assoc, Nat.mul_left_comm, Nat.mul_comm]
    have y5 : c' * Q' * (D * n) * B ^ (k + 3) * (Z * A) = n * Z * A * (c' * Q' * D * (B ^ k * B * B * B)) := by
      rw [Nat.pow_succ, Nat.pow_succ, Nat.pow_succ]
      simp only [Nat.mul_assoc, Nat.mul_left_comm, Nat.mul_comm]
    rw [y1, y5]
    refine Nat.le_trans m1 (Nat.le_trans ?_ m4)
    rw [y2, ← y4]
    refine Nat.le_trans m2 ?_
    rw [← y3]
    exact m3
theorem fx_Bm {N D k k' c : Nat} {q : Int} (h : fx_B N D k c q) (hk : k ≤ k') : fx_B N D k' c q := by
  obtain ⟨d, rfl⟩ := Nat.exists_eq_add_of_le hk
  obtain ⟨a, b⟩ := h
  unfold fx_B
  rw [Nat.pow_add, Nat.pow_add, Nat.pow_add, ← Nat.mul_assoc, ← Nat.mul_assoc, ← Nat.mul_assoc]
  exact ⟨Nat.mul_le_mul a (Nat.pow_le_pow_left (by decide) d), Nat.mul_le_mul b (Nat.pow_le_pow_left (by decide) d)⟩
-- what an encoding is decoded to
def fd_v (m : UInt64) (c : Nat) (q : Int) : Prop := FP.Core.decode FP.Core.b64 m.toNat = .fin false c q
theorem fd_out {c : Nat} {q : Int} (h1 : 4503599627370496 ≤ c) (h2 : c < 9007199254740992) (h3 : -1074 ≤ q) (h4 : q ≤ 971) : fd_v (UInt64.ofNat (FP.Core.encode FP.Core.b64 (.fin false c q))) c q := by
  have e1 : FP.Core.Fmt.qmin FP.Core.b64 = -1074 := by decide
  have e2 : FP.Core.Fmt.tails FP.Core.b64 = 4503599627370496 := by decide
  have hk := fd_enc (d := .fin false c q) ⟨h2, h3, h4⟩
  have ht : (UInt64.ofNat (FP.Core.encode FP.Core.b64 (.fin false c q))).toNat = FP.Core.encode FP.Core.b64 (.fin false c q) := by
    rw [UInt64.toNat_ofNat']
    omega
  unfold fd_v
  rw [ht]
  have hn : FP.Core.encode FP.Core.b64 (.fin false c q) = ((q + 1074).toNat + 1) * 4503599627370496 + (c - 4503599627370496) := by
    unfold FP.Core.encode
    simp only [e1, e2]
    rw [if_neg (by omega), fd_asm]
    show (0 * 2048 + ((q - -1074).toNat + 1)) * 4503599627370496 + (c - 4503599627370496) = _
    rw [show q - -1074 = q + 1074 by omega]
    omega
  rw [hn]
  obtain ⟨E, hE⟩ : ∃ E, E = (q + 1074).toNat + 1 := ⟨_, rfl⟩
  obtain ⟨t, ht⟩ : ∃ t, t = c - 4503599627370496 := ⟨_, rfl⟩
  rw [← hE, ← ht]
  have g1 : (E * 4503599627370496 + t) / 4503599627370496 = E := by omega
  have g2 : (E * 4503599627370496 + t) % 4503599627370496 = t := by omega
  have fE : FP.Core.fieldE FP.Core.b64 (E * 4503599627370496 + t) = E := by
    show (E * 4503599627370496 + t) / 4503599627370496 % 2048 = E
    rw [g1]
    omega
  have fT : FP.Core.fieldT FP.Core.b64 (E * 4503599627370496 + t) = t := g2
  have fS : FP.Core.fieldS FP.Core.b64 (E * 4503599627370496 + t) = false := by
    show ((E * 4503599627370496 + t) / 4503599627370496 / 2048 % 2 == 1) = false
    rw [g1, show E / 2048 = 0 by omega]
    rfl
  unfold FP.Core.decode
  rw [fE, fT, fS, e1, e2, if_neg (show ¬ E = FP.Core.b64.exps - 1 from fun h => by
    have h : E = 2047 := h
    omega), if_neg (by omega)]
  rw [show 4503599627370496 + t = c by omega, show (-1074 : Int) + ((E : Int) - 1) = q by omega]
-- doubles: what isFitting's near is
set_option maxRecDepth 20000
theorem fx_lo {num den a b : Nat} (hn : 0 < num) (hd : 0 < den) (h : den * 2 ^ a ≤ num * 2 ^ b) : (a : Int) - (b : Int) ≤ FP.Core.leading num den := by
  obtain ⟨-, l2⟩ := fx_lead hn hd
  generalize FP.Core.leading num den = L at l2 ⊢
  refine Int.le_of_not_gt (fun c => ?_)
  have m1 : num * 2 ^ (-(L + 1)).toNat * 2 ^ b < den * 2 ^ (L + 1).toNat * 2 ^ b := Nat.mul_lt_mul_of_pos_right l2 (Nat.two_pow_pos _)
  have m2 : den * 2 ^ a * 2 ^ (-(L + 1)).toNat ≤ num * 2 ^ b * 2 ^ (-(L + 1)).toNat := Nat.mul_le_mul_right _ h
  have m3 : den * 2 ^ ((L + 1).toNat + b) ≤ den * 2 ^ (a + (-(L + 1)).toNat) := Nat.mul_le_mul_left _ (Nat.pow_le_pow_right (by decide) (by omega))
  rw [Nat.mul_assoc, Nat.mul_assoc, ← Nat.pow_add, ← Nat.pow_add] at m1 m2
  rw [Nat.add_comm b (-(L + 1)).toNat] at m2
  omega
theorem fx_hi {num den a b : Nat} (hn : 0 < num) (hd : 0 < den) (h : num * 2 ^ b < den * 2 ^ a) : FP.Core.leading num den < (a : Int) - (b : Int) := by
  obtain ⟨l1, -⟩ := fx_lead hn hd
  generalize FP.Core.leading num den = L at l1 ⊢
  refine Int.lt_of_not_ge (fun c => ?_)
  have m1 : den * 2 ^ L.toNat * 2 ^ b ≤ num * 2 ^ (-L).toNat * 2 ^ b := Nat.mul_le_mul_right _ l1
  have m2 : num * 2 ^ b * 2 ^ (-L).toNat < den * 2 ^ a * 2 ^ (-L).toNat := Nat.mul_lt_mul_of_pos_right h (Nat.two_pow_pos _)
  have m3 : den * 2 ^ (a + (-L).toNat) ≤ den * 2 ^ (L.toNat + b) := Nat.mul_le_mul_left _ (Nat.pow_le_pow_right (by decide) (by omega))
  rw [Nat.mul_assoc, Nat.mul_assoc, ← Nat.pow_add, ← Nat.pow_add] at m1 m2
  rw [Nat.add_comm b (-L).toNat] at m2
  omega
/-- x is N / D but for k errors; its exponent is near -52 -/
def fd_N (x : UInt64) (N D k : Nat) (j : Int) : Prop := ∃ (c : Nat) (q : Int), fd_v x c q ∧ (4503599627370496 ≤ c ∧ c < 9007199254740992) ∧ (-52 - j ≤ q ∧ q ≤ -52 + j) ∧ fx_B N D k c q
theorem fd_Nm {x : UInt64} {N D k k' : Nat} {j j' : Int} (h : fd_N x N D k j) (hk : k ≤ k') (hj : j ≤ j') : fd_N x N D k' j' := by
  obtain ⟨c, q, h1, h2, h3, h4⟩ := h
  exact ⟨c, q, h1, h2, by omega, fx_Bm h4 hk⟩
theorem fd_Np {x : UInt64} {N D k : Nat} {j : Int} (h : fd_N x N D k j) : fd_pos x := by
  obtain ⟨c, q, h1, h2, -⟩ := h
  exact ⟨false, c, q, h1, by omega⟩
theorem fd_i2dN {z : Int32} {n : Nat} (hz : z.toInt = (n : Int)) (h1 : 1 ≤ n) (h2 : n ≤ 2000) : fd_N (FP.i2d z) n 1 1 12 := by
  have a1 := fx_lo (num := n) (den := 1) (a := 0) (b := 0) (by omega) (by decide) (by omega)
  have a2 := fx_hi (num := n) (den := 1) (a := 11) (b := 0) (by omega) (by decide) (by omega)
  obtain ⟨c, q, e, c1, c2, c3, hA⟩ := fx_rnd (num := n) (den := 1) (e := 0) (s := false) (by omega) (by decide) (by omega) (by omega)
  have hr : FP.Core.fromInt FP.Core.b64 z.toInt = FP.Core.encode FP.Core.b64 (.fin false c q) := by
    rw [hz, ← e]
    show FP.Core.encode FP.Core.b64 (FP.Core.roundRatio FP.Core.b64 (decide ((n : Int) < 0)) ((n : Int)).natAbs 1 0) = _
    rw [decide_eq_false (by omega), Int.natAbs_natCast]
  refine ⟨c, q, ?_, ⟨c1, c2⟩, by omega, fx_int hA⟩
  show fd_v (UInt64.ofNat (FP.Core.fromInt FP.Core.b64 z.toInt)) c q
  rw [hr]
  exact fd_out c1 c2 (by omega) (by omega)
theorem fd_mulN {x y : UInt64} {N D k n : Nat} {j : Int} (hx : fd_N x N D k j) (hy : fd_N y n 1 1 12) (hj : 0 ≤ j ∧ j ≤ 800) : fd_N (FP.dmul x y) (N * n) D (k + 2) (j + 14) := by
  obtain ⟨c, q, x1, x2, x3, x4⟩ := hx
  obtain ⟨d, r, y1, y2, y3, y4⟩ := hy
  have p1 : 4503599627370496 * 4503599627370496 ≤ c * d := Nat.mul_le_mul x2.1 y2.1
  have p2 : c * d < 9007199254740992 * 9007199254740992 := Nat.mul_lt_mul_of_lt_of_lt x2.2 y2.2
  have a1 := fx_lo (num := c * d) (den := 1) (a := 104) (b := 0) (by omega) (by decide) (by omega)
  have a2 := fx_hi (num := c * d) (den := 1) (a := 106) (b := 0) (by omega) (by decide) (by omega)
  obtain ⟨c', q', e, c1, c2, c3, hA⟩ := fx_rnd (num := c * d) (den := 1) (e := q + r) (s := false) (by omega) (by decide) (by omega) (by omega)
  have hr : FP.Core.mul FP.Core.b64 x.toNat y.toNat = FP.Core.encode FP.Core.b64 (.fin false c' q') := by
    unfold FP.Core.mul
    have x1 : FP.Core.decode FP.Core.b64 x.toNat = .fin false c q := x1
    have y1 : FP.Core.decode FP.Core.b64 y.toNat = .fin false d r := y1
    rw [x1, y1, ← e]
    rfl
  refine ⟨c', q', ?_, ⟨c1, c2⟩, by omega, fx_mul (by omega) (by omega) (by omega) x4 y4 hA⟩
  show fd_v (UInt64.ofNat (FP.Core.mul FP.Core.b64 x.toNat y.toNat)) c' q'
  rw [hr]
  exact fd_out c1 c2 (by omega) (by omega)
theorem fd_divN {x y : UInt64} {N D k n : Nat} {j : Int} (hx : fd_N x N D k j) (hy : fd_N y n 1 1 12) (hj : 0 ≤ j ∧ j ≤ 800) : fd_N (FP.ddiv x y) N (D * n) (k + 3) (j + 14) := by
  obtain ⟨c, q, x1, x2, x3, x4⟩ := hx
  obtain ⟨d, r, y1, y2, y3, y4⟩ := hy
  have a1 := fx_lo (num := c) (den := d) (a := 0) (b := 1) (by omega) (by omega) (by omega)
  have a2 := fx_hi (num := c) (den := d) (a := 1) (b := 0) (by omega) (by omega) (by omega)
  obtain ⟨c', q', e, c1, c2, c3, hA⟩ := fx_rnd (num := c) (den := d) (e := q - r) (s := false) (by omega) (by omega) (by omega) (by omega)
  have hr : FP.Core.div FP.Core.b64 x.toNat y.toNat = FP.Core.encode FP.Core.b64 (.fin false c' q') := by
    unfold FP.Core.div
    have x1 : FP.Core.decode FP.Core.b64 x.toNat = .fin false c q := x1
    have y1 : FP.Core.decode FP.Core.b64 y.toNat = .fin false d r := y1
    rw [x1, y1, ← e]
    show FP.Core.encode FP.Core.b64 (if d = 0 then (if c = 0 then .nan else .inf (false != false)) else FP.Core.roundRatio FP.Core.b64 (false != false) c d (q - r)) = _
    rw [if_neg (by omega)]
    rfl
  refine ⟨c', q', ?_, ⟨c1, c2⟩, by omega, fx_div (by omega) (by omega) (by omega) x4 y4 hA⟩
  show fd_v (UInt64.ofNat (FP.Core.div FP.Core.b64 x.toNat y.toNat)) c' q'
  rw [hr]
  exact fd_out c1 c2 (by omega) (by omega)
theorem fd_cm {x y : UInt64} {c d : Nat} {q r : Int} (hx : fd_v x c q) (hy : fd_v y d r) (hq : -1200 ≤ q) (hr : -1200 ≤ r) (op : ClassFile.CmpOp) : (d * fx_2 r ≤ c * fx_2 q → 0 ≤ (Op.cmpValue (FP.dcmp x y) op).toInt) ∧ (c * fx_2 q ≤ d * fx_2 r → (Op.cmpValue (FP.dcmp x y) op).toInt ≤ 0) := by
  have hx : FP.Core.decode FP.Core.b64 x.toNat = .fin false c q := hx
  have hy : FP.Core.decode FP.Core.b64 y.toNat = .fin false d r := hy
  have e : FP.dcmp x y = some (compare ((c * 2 ^ (q - min q r).toNat : Nat) : Int) ((d * 2 ^ (r - min q r).toNat : Nat) : Int)) := by
    show FP.Core.order (FP.Core.decode FP.Core.b64 x.toNat) (FP.Core.decode FP.Core.b64 y.toNat) = _
    rw [hx, hy]
    rfl
  have z := Nat.two_pow_pos (min q r + 1200).toNat
  have u1 : c * fx_2 q = c * 2 ^ (q - min q r).toNat * 2 ^ (min q r + 1200).toNat := by
    unfold fx_2
    rw [Nat.mul_assoc, ← Nat.pow_add, show (q + 1200).toNat = (q - min q r).toNat + (min q r + 1200).toNat by omega]
  have u2 : d * fx_2 r = d * 2 ^ (r - min q r).toNat * 2 ^ (min q r + 1200).toNat := by
    unfold fx_2
    rw [Nat.mul_assoc, ← Nat.pow_add, show (r + 1200).toNat = (r - min q r).toNat + (min q r + 1200).toNat by omega]
  rw [u1, u2, e]
  generalize c * 2 ^ (q - min q r).toNat = a
  generalize d * 2 ^ (r - min q r).toNat = b
  refine ⟨fun h => ?_, fun h => ?_⟩
  · have h := Nat.le_of_mul_le_mul_right h z
    cases o : compare (a : Int) (b : Int) with
    | lt =>
      have := Int.compare_eq_lt.mp o
      omega
    | eq => exact (show (0 : Int) ≤ ((0 : Int32)).toInt by decide)
    | gt => exact (show (0 : Int) ≤ ((1 : Int32)).toInt by decide)
  · have h := Nat.le_of_mul_le_mul_right h z
    cases o : compare (a : Int) (b : Int) with
    | lt => exact (show ((-1 : Int32)).toInt ≤ 0 by decide)
    | eq => exact (show ((0 : Int32)).toInt ≤ 0 by decide)
    | gt =>
      have := Int.compare_eq_gt.mp o
      omega
theorem fd_k1 : fd_v (UInt64.ofNat (4607182409792818153 : Int).toNat) 9007190247541737 (-53) := by
  unfold fd_v
  decide +kernel
theorem fd_k2 : fd_v (UInt64.ofNat (4607182423303617035 : Int).toNat) 4503604130970123 (-52) := by
  unfold fd_v
  decide +kernel
def fd_PA : Nat := 9007199254740991 ^ 50
def fd_PB : Nat := 9007199254740992 ^ 50
def fd_PC : Nat := 9007199254740993 ^ 50
theorem fd_n1 : 9007190247541737 * fx_2 (-53) * fd_PB ≤ fx_2 0 * fd_PA := by decide +kernel
theorem fd_n2 : fx_2 0 * fd_PC ≤ 4503604130970123 * fx_2 (-52) * fd_PB := by decide +kernel
theorem fd_nB : 0 < fd_PB := by decide +kernel
theorem fd_one0 {N U X Z A B C a b : Nat} (hN : 0 < N) (hB : 0 < B) (b1 : N * Z * A ≤ X * N * B) (b2 : X * N * B ≤ N * Z * C) (n1 : a * B ≤ Z * A) (n2 : Z * C ≤ b * B) : a ≤ X ∧ X ≤ b := by
  have s1 : Z * A ≤ X * B := by
    refine Nat.le_of_mul_le_mul_right (c := N) ?_ hN
    rw [show X * B * N = X * N * B by rw [Nat.mul_assoc, Nat.mul_comm B N, ← Nat.mul_assoc], show Z * A * N = N * Z * A by rw [Nat.mul_comm _ N, ← Nat.mul_assoc]]
    exact b1
  have s2 : X * B ≤ Z * C := by
    refine Nat.le_of_mul_le_mul_right (c := N) ?_ hN
    rw [show X * B * N = X * N * B by rw [Nat.mul_assoc, Nat.mul_comm B N, ← Nat.mul_assoc], show Z * C * N = N * Z * C by rw [Nat.mul_comm _ N, ← Nat.mul_assoc]]
    exact b2
  exact ⟨Nat.le_of_mul_le_mul_right (Nat.le_trans n1 s1) hB, Nat.le_of_mul_le_mul_right (Nat.le_trans s2 n2) hB⟩
/-- where both products are the same near lies within its bounds -/
theorem fd_one {x : UInt64} {N k : Nat} {j : Int} (hN : 0 < N) (hx : fd_N x N N k j) (hk : k ≤ 50) (hj : j ≤ 1000) (o1 o2 : ClassFile.CmpOp) : 0 ≤ (Op.cmpValue (FP.dcmp x (UInt64.ofNat (4607182409792818153 : Int).toNat)) o1).toInt ∧ (Op.cmpValue (FP.dcmp x (UInt64.ofNat (4607182423303617035 : Int).toNat)) o2).toInt ≤ 0 := by
  obtain ⟨c, q, x1, x2, x3, x4⟩ := fd_Nm hx hk (Int.le_refl j)
  have b1 : N * fx_2 0 * fd_PA ≤ c * fx_2 q * N * fd_PB := x4.1
  have b2 : c * fx_2 q * N * fd_PB ≤ N * fx_2 0 * fd_PC := x4.2
  obtain ⟨r1, r2⟩ := fd_one0 (U := 0) hN fd_nB b1 b2 fd_n1 fd_n2
  exact ⟨(fd_cm x1 fd_k1 (by omega) (by decide) o1).1 r1, (fd_cm x1 fd_k2 (by omega) (by decide) o2).2 r2⟩
