set_option maxRecDepth 20000
/-- how many of the first periods are asked for -/
def rz_i (x p : Int) : Int := if xa_ib 3 (xa_ib 7 x p) 1 = 1 then 1 else 0
def rz_n (x : Int) : Nat → Int
  | 0 => 0
  | p + 1 => rz_n x p + rz_i x (p : Int)
theorem rz_i1 {x p : Int} (h : xa_ib 3 (xa_ib 7 x p) 1 = 1) : rz_i x p = 1 := if_pos h
theorem rz_i0 {x p : Int} (h : ¬ xa_ib 3 (xa_ib 7 x p) 1 = 1) : rz_i x p = 0 := if_neg h
theorem rz_ns {x p : Int} (h : 0 ≤ p) : rz_n x (p + 1).toNat = rz_n x p.toNat + rz_i x p := by
  rw [show (p + 1).toNat = p.toNat + 1 by omega]
  show rz_n x p.toNat + rz_i x ((p.toNat : Nat) : Int) = _
  rw [Int.toNat_of_nonneg h]
theorem rz_nb (x : Int) : ∀ n : Nat, 0 ≤ rz_n x n ∧ rz_n x n ≤ (n : Int) := by
  intro n
  induction n with
  | zero => exact ⟨Int.le_refl _, Int.le_refl _⟩
  | succ n ih =>
    have h : 0 ≤ rz_i x (n : Int) ∧ rz_i x (n : Int) ≤ 1 := by
      by_cases c : xa_ib 3 (xa_ib 7 x (n : Int)) 1 = 1
      · rw [rz_i1 c]
        omega
      · rw [rz_i0 c]
        omega
    show 0 ≤ rz_n x n + rz_i x (n : Int) ∧ rz_n x n + rz_i x (n : Int) ≤ ((n + 1 : Nat) : Int)
    omega
