-- the search of the reference
set_option maxRecDepth 20000
/-- least and most of the way's wheels -/
def fr_L (M : xa_M) : Int → Int := fun i => M 61 (M 80 i)
def fr_H (M : xa_M) : Int → Int := fun i => M 62 (M 80 i)
theorem fr_nx {M M1 : xa_M} {x v : Int} (hlo : ∀ i, 0 ≤ i → i ≤ x → M1 84 i = M 84 i) (hhi : ∀ i, x < i → i < M 60 32 → M1 84 i = M 61 (M 80 i)) (hmx : ∀ i, x < i → i < M 60 32 → M 84 i = M 62 (M 80 i)) (hx : 0 ≤ x ∧ x < M 60 32) (hv : v = M 84 x + 1) : fs_rk (fr_L M) (fr_H M) ((xa_up M1 84 x v) 84) (M 60 32).toNat = fs_rk (fr_L M) (fr_H M) (M 84) (M 60 32).toNat + 1 := by
  have ex : ((x.toNat : Nat) : Int) = x := Int.toNat_of_nonneg hx.1
  refine fs_succ (x := x.toNat) (fun i i0 i1 => ?_) ?_ (M 60 32).toNat (by omega) (fun i i0 i1 => ⟨hmx i (by omega) (by omega), ?_⟩)
  · rw [xm_up84, if_neg (by omega)]
    exact hlo i i0 (by omega)
  · rw [ex, xm_up84, if_pos rfl, hv]
  · rw [xm_up84, if_neg (by omega)]
    exact hhi i (by omega) (by omega)
theorem ct_nextWayF {A : Nat → Nat} {h0 : g_H} {d : Nat} {M : xa_M} {post : Option xa_V → xa_M → Prop} (hF : xm_fit M) (k : ∀ (r : Int) (M1 : xa_M), (r = 0 ∨ r = 1) → xm_84 M M1 → xm_fit M1 → (r = 1 → fs_rk (fr_L M) (fr_H M) (M1 84) (M 60 32).toNat = fs_rk (fr_L M) (fr_H M) (M 84) (M 60 32).toNat + 1) → (r = 0 → fs_rk (fr_L M) (fr_H M) (M 84) (M 60 32).toNat + 1 = fs_pr (fr_L M) (fr_H M) (M 60 32).toNat) → post (some (0, 0, 0, 1, r)) M1) : xa_C xm_I A h0 (d + 1) 243 [(2, 60, 0, 0, 0)] M post := by
  refine xa_C_wk ?_
  refine xa_meth (Q0 := (2, 2, false, 0, 0, 12)) (by decide +kernel) ⟨rfl, rfl⟩ (full := s_c_243) rfl rfl ?_
  intro hM hv Q hgo
  have b32 := xm_f32 hM
  have loop0 : ∀ (n : Nat) (x1 : Int) (M1 : xa_M), (-1) ≤ x1 ∧ x1 ≤ 13 → xm_cor M M1 → xm_84 M M1 → x1 < M 60 32 → (∀ i, 0 ≤ i → i ≤ x1 → M1 84 i = M 84 i) → (∀ i, x1 < i → i < M 60 32 → M1 84 i = M 61 (M 80 i)) → (∀ i, x1 < i → i < M 60 32 → M 84 i = M 62 (M 80 i)) → x1 + 1 < (n : Int) → Q 7 [(1, (0, 0, (-1), 13, x1)), (0, (2, 60, 0, 0, 0))] [] M1 := by
    intro n
    induction n with
    | zero => intro x1 M1 b1 hc h84 hw hlo hhi hmx hms; omega
    | succ n ih0 =>
      intro x1 M1 b1 hc h84 hw hlo hhi hmx hms0
      refine hgo.2.2 _ _ _ _ (fun hM1 _ => ?_)
      have e32 := h84 60 32 (by decide)
      have e80 := h84 80 x1 (by decide)
      have e61 : M1 61 (M1 80 x1) = M 61 (M 80 x1) := by rw [e80]; exact h84 61 _ (by decide)
      have e62 : M1 62 (M1 80 x1) = M 62 (M 80 x1) := by rw [e80]; exact h84 62 _ (by decide)
      have t80 : 0 ≤ x1 → 0 ≤ M 80 x1 ∧ M 80 x1 ≤ 13 := fun h => xm_t80 hM x1 (by omega) (by omega)
      have t61 : 0 ≤ x1 → 0 ≤ M 61 (M 80 x1) ∧ M 61 (M 80 x1) ≤ 400 := fun h => xm_t61 hM _ (t80 h).1 (by have := t80 h; omega)
      have t62 : 0 ≤ x1 → 0 ≤ M 62 (M 80 x1) ∧ M 62 (M 80 x1) ≤ 400 := fun h => xm_t62 hM _ (t80 h).1 (by have := t80 h; omega)
      have f1 : 0 ≤ x1 → M 61 (M 80 x1) ≤ M 84 x1 ∧ M 84 x1 ≤ M 62 (M 80 x1) := fun h => hF x1 h (by omega)
      have q1 : 0 ≤ x1 → M1 84 x1 = M 84 x1 := fun h => hlo x1 h (by omega)
      refine hgo.1 32 [7] 7 _ _ _ ?_
      refine And.intro ?_ ?_
      · intro (c1 : x1 < 0)
        refine And.intro ?_ ?_
        · intro (c2 : 0 ≤ x1)
          refine And.intro (show 0 ≤ x1 ∧ x1 < 14 by omega) ?_
          refine And.intro (show 0 ≤ x1 ∧ x1 < 14 by omega) ?_
          refine And.intro (show 0 ≤ ((M1 84 x1) + 1) ∧ ((M1 84 x1) + 1) ≤ 400 by omega) ?_
          show xa_wk post (some (0, 0, 1, 1, 1)) (xa_up M1 84 x1 ((M1 84 x1) + 1))
          exact xa_wkI 1 rfl (fun _ _ => by omega) (k 1 _ (Or.inr rfl) (xm_84_u h84) (xm_nxg hF h84 hlo hhi (by omega) (by omega) (by omega)) (fun _ => fr_nx hlo hhi hmx (by omega) (by omega)) (fun e => absurd e (by decide)))
        · intro (c2 : x1 < 0)
          show xa_wk post (some (0, 0, 0, 0, 0)) M1
          exact xa_wkI 0 rfl (fun _ _ => by omega) (k 0 M1 (Or.inl rfl) h84 (xm_nxf hF h84 (fun i i0 i1 => hhi i (by omega) (by omega))) (fun e => absurd e (by decide)) (fun _ => fs_last _ (fun i i0 i1 => hmx i (by omega) (by omega))))
      · intro (c1 : 0 ≤ x1)
        refine And.intro (show 0 ≤ x1 ∧ x1 < 14 by omega) ?_
        refine And.intro (show 0 ≤ x1 ∧ x1 < 14 by omega) ?_
        refine And.intro ?_ ?_
        · intro (c3 : ¬ (M1 84 x1) = (M1 62 (M1 80 x1)))
          refine And.intro ?_ ?_
          · intro (c4 : 0 ≤ x1)
            refine And.intro (show 0 ≤ x1 ∧ x1 < 14 by omega) ?_
            refine And.intro (show 0 ≤ x1 ∧ x1 < 14 by omega) ?_
            refine And.intro (show 0 ≤ ((M1 84 x1) + 1) ∧ ((M1 84 x1) + 1) ≤ 400 by omega) ?_
            show xa_wk post (some (0, 0, 1, 1, 1)) (xa_up M1 84 x1 ((M1 84 x1) + 1))
            exact xa_wkI 1 rfl (fun _ _ => by omega) (k 1 _ (Or.inr rfl) (xm_84_u h84) (xm_nxg hF h84 hlo hhi (by omega) (by omega) (by omega)) (fun _ => fr_nx hlo hhi hmx (by omega) (by omega)) (fun e => absurd e (by decide)))
          · intro (c4 : x1 < 0)
            show xa_wk post (some (0, 0, 0, 0, 0)) M1
            exact xa_wkI 0 rfl (fun _ _ => by omega) (k 0 M1 (Or.inl rfl) h84 (xm_nxf hF h84 (fun i i0 i1 => hhi i (by omega) (by omega))) (fun e => absurd e (by decide)) (fun _ => fs_last _ (fun i i0 i1 => hmx i (by omega) (by omega))))
        · intro (c3 : (M1 84 x1) = (M1 62 (M1 80 x1)))
          refine And.intro (show 0 ≤ x1 ∧ x1 < 14 by omega) ?_
          refine And.intro (show 0 ≤ x1 ∧ x1 < 14 by omega) ?_
          show Q 7 [(1, (0, 0, (-2), 12, x1 + (-1))), (0, (2, 60, 0, 0, 0))] [] (xa_up M1 84 x1 (M1 61 (M1 80 x1)))
          refine hgo.2.1 7 _ [(1, (0, 0, (-1), 13, x1 + (-1))), (0, (2, 60, 0, 0, 0))] _ _ (xa_subI rfl rfl (fun _ _ _ _ => by omega) (xa_subR rfl xa_sub0)) ?_
          exact ih0 (x1 + (-1)) (xa_up M1 84 x1 (M1 61 (M1 80 x1))) (by omega) (xm_cor_a rfl hc) (xm_84_u h84) (by omega) (fun i i0 i1 => by rw [xm_up84, if_neg (by omega)]; exact hlo i i0 (by omega)) (fun i i0 i1 => by rw [xm_up84]; by_cases e : i = x1; (rw [if_pos e, e, e61]); (rw [if_neg e]; exact hhi i (by omega) i1)) (fun i i0 i1 => by by_cases e : i = x1; (rw [e]; omega); (exact hmx i (by omega) i1)) (by omega)
  refine hgo.1 10 [7] 0 _ _ _ ?_
  show Q 7 [(1, (0, 0, (-1), 13, (M 60 32) - 1)), (0, (2, 60, 0, 0, 0))] [] M
  refine hgo.2.1 7 _ [(1, (0, 0, (-1), 13, (M 60 32) - 1)), (0, (2, 60, 0, 0, 0))] _ _ (xa_subI rfl rfl (fun _ _ _ _ => by omega) (xa_subR rfl xa_sub0)) ?_
  exact loop0 15 ((M 60 32) - 1) M (by omega) xm_cor_r xm_84_r (by omega) (fun i i0 i1 => rfl) (fun i i0 i1 => by omega) (fun i i0 i1 => by omega) (by omega)
/-- the product of an array's first numbers -/
def if_p (f : Int → Int) : Nat → Int
  | 0 => 1
  | n + 1 => if_p f n * f n
theorem if_p1 {f : Int → Int} {n : Nat} : if_p f (n + 1) = if_p f n * f n := rfl
theorem if_pe {f g : Int → Int} (n : Nat) : (∀ i : Int, 0 ≤ i → i < n → g i = f i) → if_p g n = if_p f n := by
  induction n with
  | zero => intro _; rfl
  | succ n ih =>
    intro h
    rw [if_p1, if_p1, ih (fun i i0 i1 => h i i0 (by omega)), h n (by omega) (by omega)]
theorem if_pu {f g : Int → Int} {x : Nat} {c : Int} (hx : f x = g x * c) (ho : ∀ i : Int, ¬ i = x → g i = f i) (n : Nat) : x < n → if_p f n = if_p g n * c := by
  induction n with
  | zero => intro h; omega
  | succ n ih =>
    intro h
    rw [if_p1, if_p1]
    by_cases e : x = n
    · rw [← e, hx, if_pe (g := g) (f := f) x (fun i i0 i1 => ho i (by omega)), Int.mul_assoc]
    · rw [ih (by omega), ho n (by omega), Int.mul_assoc, Int.mul_comm c, Int.mul_assoc]
theorem if_pos1 {f : Int → Int} (n : Nat) : (∀ i : Int, 0 ≤ i → i < n → 1 ≤ f i) → 1 ≤ if_p f n := by
  induction n with
  | zero => intro _; exact Int.le_refl 1
  | succ n ih =>
    intro h
    have a := ih (fun i i0 i1 => h i i0 (by omega))
    have m := Int.mul_le_mul a (h n (by omega) (by omega)) (by decide) (by omega)
    rw [Int.one_mul] at m
    exact m
theorem if_one {f : Int → Int} (n : Nat) : (∀ i : Int, 0 ≤ i → i < n → f i = 1) → if_p f n = 1 := by
  induction n with
  | zero => intro _; rfl
  | succ n ih =>
    intro h
    rw [if_p1, ih (fun i i0 i1 => h i i0 (by omega)), h n (by omega) (by omega)]
    rfl
theorem if_ones {f : Int → Int} (n : Nat) : (∀ i : Int, 0 ≤ i → i < n → 1 ≤ f i) → if_p f n = 1 → ∀ i : Int, 0 ≤ i → i < n → f i = 1 := by
  induction n with
  | zero => intro _ _ i i0 i1; omega
  | succ n ih =>
    intro h e i i0 i1
    have a := if_pos1 n (fun i i0 i1 => h i i0 (by omega))
    have b := h n (by omega) (by omega)
    rw [if_p1] at e
    have m1 := Int.mul_le_mul_of_nonneg_left b (show 0 ≤ if_p f n by omega)
    have m2 := Int.mul_le_mul_of_nonneg_right a (show 0 ≤ f n by omega)
    rw [Int.mul_one] at m1
    rw [Int.one_mul] at m2
    by_cases c : i = n
    · rw [c]
      omega
    · exact ih (fun i i0 i1 => h i i0 (by omega)) (by omega) i i0 (by omega)
theorem if_gm {x z y : Int} (h1 : Int.gcd x y = 1) (h2 : Int.gcd z y = 1) : Int.gcd (x * z) y = 1 := by
  unfold Int.gcd at h1 h2 ⊢
  rw [Int.natAbs_mul]
  exact Nat.Coprime.mul_left h1 h2
theorem if_gp {f : Int → Int} {y : Int} (n : Nat) : (∀ i : Int, 0 ≤ i → i < n → Int.gcd (f i) y = 1) → Int.gcd (if_p f n) y = 1 := by
  induction n with
  | zero =>
    intro _
    show Int.gcd 1 y = 1
    rw [Int.gcd_comm]
    exact Int.gcd_one
  | succ n ih =>
    intro h
    rw [if_p1]
    exact if_gm (ih (fun i i0 i1 => h i i0 (by omega))) (h n (by omega) (by omega))
theorem if_gq {f g : Int → Int} {n m : Nat} (h : ∀ i j : Int, 0 ≤ i → i < n → 0 ≤ j → j < m → Int.gcd (f i) (g j) = 1) : Int.gcd (if_p f n) (if_p g m) = 1 := if_gp n (fun i i0 i1 => by
  rw [Int.gcd_comm]
  exact if_gp m (fun j j0 j1 => by
    rw [Int.gcd_comm]
    exact h i j i0 i1 j0 j1))
/-- what is left of two products -/
def if_S (A B : Int) (M : xa_M) (x y : Int) : Prop := ∃ G : Int, 1 ≤ G ∧ A = if_p (M 85) x.toNat * G ∧ B = if_p (M 86) y.toNat * G
def if_C (M : xa_M) (x y z : Int) : Prop := ∀ i j : Int, 0 ≤ i → 0 ≤ j → (i < x ∧ j < z) ∨ (i = x ∧ j < y) → Int.gcd (M 85 i) (M 86 j) = 1
theorem if_eq {A B : Int} {M : xa_M} {x y : Int} (hS : if_S A B M x y) (hC : if_C M x 0 y) (h5 : xm_ge M 85 x) (h6 : xm_ge M 86 y) (h : A = B) : (∀ i : Int, 0 ≤ i → i < x → M 85 i = 1) ∧ ∀ i : Int, 0 ≤ i → i < y → M 86 i = 1 := by
  obtain ⟨G, hG, hA, hB⟩ := hS
  have e : if_p (M 85) x.toNat = if_p (M 86) y.toNat := Int.eq_of_mul_eq_mul_right (show G ≠ 0 by omega) (by rw [← hA, ← hB]; exact h)
  have g := if_gq (f := M 85) (g := M 86) (n := x.toNat) (m := y.toNat) (fun i j i0 i1 j0 j1 => hC i j i0 j0 (Or.inl ⟨by omega, by omega⟩))
  have p1 := if_pos1 (f := M 85) x.toNat (fun i i0 i1 => h5 i i0 (by omega))
  rw [← e, Int.gcd_self] at g
  have o1 : if_p (M 85) x.toNat = 1 := by omega
  exact ⟨fun i i0 i1 => if_ones x.toNat (fun i i0 i1 => h5 i i0 (by omega)) o1 i i0 (by omega), fun i i0 i1 => if_ones y.toNat (fun i i0 i1 => h6 i i0 (by omega)) (e.symm.trans o1) i i0 (by omega)⟩
theorem if_qe {A B : Int} {M : xa_M} {x y : Int} (hS : if_S A B M x y) (h5 : ∀ i : Int, 0 ≤ i → i < x → M 85 i = 1) (h6 : ∀ i : Int, 0 ≤ i → i < y → M 86 i = 1) : A = B := by
  obtain ⟨G, hG, hA, hB⟩ := hS
  rw [hA, hB, if_one x.toNat (fun i i0 i1 => h5 i i0 (by omega)), if_one y.toNat (fun i i0 i1 => h6 i i0 (by omega))]
theorem if_gd {x y c d : Int} (h : Int.gcd (x * c) (y * d) = 1) : Int.gcd x y = 1 := by
  unfold Int.gcd at h ⊢
  rw [Int.natAbs_mul, Int.natAbs_mul] at h
  have h : Nat.Coprime (x.natAbs * c.natAbs) (y.natAbs * d.natAbs) := h
  exact (h.coprime_mul_right).coprime_mul_right_right
/-- two numbers are shortened -/
theorem if_st {A B g u w : Int} {M : xa_M} {x y i j : Int} (hS : if_S A B M x y) (hC : if_C M i j y) (hi : 0 ≤ i ∧ i < x) (hj : 0 ≤ j ∧ j < y) (hg : 1 ≤ g) (hu : M 85 i = u * g) (hw : M 86 j = w * g) (hc : Int.gcd u w = 1) : if_S A B (xa_up (xa_up M 85 i u) 86 j w) x y ∧ if_C (xa_up (xa_up M 85 i u) 86 j w) i (j + 1) y := by
  have a5 : (xa_up (xa_up M 85 i u) 86 j w) 85 i = u := (xa_up_ne (by omega)).trans xa_up_eq
  have a6 : (xa_up (xa_up M 85 i u) 86 j w) 86 j = w := xa_up_eq
  have o5 : ∀ k : Int, ¬ k = i → (xa_up (xa_up M 85 i u) 86 j w) 85 k = M 85 k := fun k h => (xa_up_ne (by omega)).trans (xa_up_ne (by omega))
  have o6 : ∀ k : Int, ¬ k = j → (xa_up (xa_up M 85 i u) 86 j w) 86 k = M 86 k := fun k h => (xa_up_ne (by omega)).trans (xa_up_ne (by omega))
  generalize xa_up (xa_up M 85 i u) 86 j w = M2 at a5 a6 o5 o6 ⊢
  have ei : ((i.toNat : Nat) : Int) = i := Int.toNat_of_nonneg hi.1
  have ej : ((j.toNat : Nat) : Int) = j := Int.toNat_of_nonneg hj.1
  obtain ⟨G, hG, hA, hB⟩ := hS
  refine ⟨⟨g * G, ?_, ?_, ?_⟩, fun k l k0 l0 hkl => ?_⟩
  · have m := Int.mul_le_mul hg hG (by decide) (show 0 ≤ g by omega)
    rw [Int.one_mul] at m
    exact m
  · rw [hA, if_pu (f := M 85) (g := M2 85) (x := i.toNat) (c := g) (by rw [ei, a5]; exact hu) (fun k h => o5 k (by omega)) x.toNat (by omega), Int.mul_assoc]
  · rw [hB, if_pu (f := M 86) (g := M2 86) (x := j.toNat) (c := g) (by rw [ej, a6]; exact hw) (fun k h => o6 k (by omega)) y.toNat (by omega), Int.mul_assoc]
  · by_cases e1 : k = i
    · by_cases e2 : l = j
      · rw [e1, e2, a5, a6]
        exact hc
      · have h := hC i l hi.1 l0 (by omega)
        rw [e1, a5, o6 l e2]
        rw [hu] at h
        exact if_gd (c := g) (d := 1) (by rw [Int.mul_one (M 86 l)]; exact h)
    · rw [o5 k e1]
      by_cases e2 : l = j
      · have h := hC k j k0 hj.1 (by omega)
        rw [e2, a6]
        rw [hw] at h
        exact if_gd (c := 1) (d := g) (by rw [Int.mul_one (M 85 k)]; exact h)
      · rw [o6 l e2]
        exact hC k l k0 l0 (by omega)
/-- a number more -/
theorem if_ad5 {M : xa_M} {x v : Int} (h : 0 ≤ x) : if_p ((xa_up M 85 x v) 85) (x + 1).toNat = if_p (M 85) x.toNat * v := by
  have ex : ((x.toNat : Nat) : Int) = x := Int.toNat_of_nonneg h
  rw [show (x + 1).toNat = x.toNat + 1 by omega, if_p1, ex, xa_up_eq, if_pe x.toNat (fun i i0 i1 => xa_up_ne (by omega))]
theorem if_ad6 {M : xa_M} {x v : Int} (h : 0 ≤ x) : if_p ((xa_up M 86 x v) 86) (x + 1).toNat = if_p (M 86) x.toNat * v := by
  have ex : ((x.toNat : Nat) : Int) = x := Int.toNat_of_nonneg h
  rw [show (x + 1).toNat = x.toNat + 1 by omega, if_p1, ex, xa_up_eq, if_pe x.toNat (fun i i0 i1 => xa_up_ne (by omega))]
theorem if_us {R V : Int → Int} {x : Int} (h : 0 ≤ x) : fs_u R V (x + 1).toNat = fs_u R V x.toNat * (if 0 < R x then V x else 1) ∧ fs_d R V (x + 1).toNat = fs_d R V x.toNat * (if R x < 0 then V x else 1) := by
  have ex : ((x.toNat : Nat) : Int) = x := Int.toNat_of_nonneg h
  rw [show (x + 1).toNat = x.toNat + 1 by omega, fs_u1, fs_d1, ex]
  exact ⟨rfl, rfl⟩
theorem if_tq {x g : Int} (hg : 1 ≤ g) (hx : 0 ≤ x) (hd : g ∣ x) : x = x.tdiv g * g := by
  rw [Int.tdiv_eq_ediv_of_nonneg hx]
  exact (Int.ediv_mul_cancel hd).symm
theorem if_cop {x y g : Int} (hx : 0 ≤ x) (hy : 0 ≤ y) (hg : g = (Int.gcd x y : Int)) (h1 : 1 ≤ g) : Int.gcd (x.tdiv g) (y.tdiv g) = 1 := by
  have d1 : g ∣ x := by rw [hg]; exact Int.gcd_dvd_left x y
  have d2 : g ∣ y := by rw [hg]; exact Int.gcd_dvd_right x y
  rw [Int.tdiv_eq_ediv_of_nonneg hx, Int.tdiv_eq_ediv_of_nonneg hy, Int.gcd_ediv d1 d2]
  have e : g.natAbs = Int.gcd x y := by rw [hg]; exact Int.natAbs_natCast _
  rw [e]
  exact Nat.div_self (by omega)
theorem xm_if97F {A : Nat → Nat} {h0 : g_H} {d : Nat} {M : xa_M} {post : Option xa_V → xa_M → Prop} {p : Int} (hM : xa_Mok xm_I M) (hI : xm_Inv M) (ht : ∀ i, 0 ≤ i → i < M 60 32 → 10 ≤ M 84 i) (p0 : 0 ≤ p) (p1 : p < M 60 11) (k : ∀ (r : Int) (M1 : xa_M), (r = 0 ∨ r = 1) → (r = 1 ↔ M 71 p * fs_u (M 81) (M 84) (M 60 32).toNat = M 70 p * fs_d (M 81) (M 84) (M 60 32).toNat) → (∀ q j, q ≠ 85 → q ≠ 86 → M1 q j = M q j) → post (some (0, 0, 0, 1, r)) M1) {Q : xa_Q} (hgo : xa_go xm_I (xa_C xm_I A h0 (d + 2)) (xa_wk post) s_c_242 10 2 Q) : Q 97 [(1, (0, 0, 0, 7, p)), (0, (2, 60, 0, 0, 0))] [] M := by
  have b11 := xm_f11 hM
  have hpp := hI.2.2.1 p p0 p1
  have loop4 : ∀ (n : Nat) (x6 x5 : Int) (M1 : xa_M), 0 ≤ x6 ∧ x6 ≤ 15 → 0 ≤ x5 ∧ x5 ≤ 15 → xm_cor M M1 → xm_fr M M1 → (M 71 p * fs_u (M 81) (M 84) (M 60 32).toNat = M 70 p * fs_d (M 81) (M 84) (M 60 32).toNat ↔ ∀ i : Int, 0 ≤ i → i < x5 → M1 86 i = 1) → (∀ i : Int, 0 ≤ i → i < x6 → M1 86 i = 1) → 15 - x6 < (n : Int) → Q 322 [(6, (0, 0, 0, 15, x6)), (5, (0, 0, 0, 15, x5)), (0, (2, 60, 0, 0, 0))] [] M1 := by
    intro n
    induction n with
    | zero => intro x6 x5 M1 b6 b5 hc hfr hE h1 hms; omega
    | succ n ih4 =>
      intro x6 x5 M1 b6 b5 hc hfr hE h1 hms4
      refine hgo.1 16 [140, 217, 227, 292, 322] 322 _ _ _ ?_
      refine And.intro ?_ ?_
      · intro (c1 : x5 ≤ x6)
        show xa_wk post (some (0, 0, 1, 1, 1)) M1
        exact xa_wkI 1 rfl (fun _ _ => by omega) (k 1 _ (by omega) ⟨fun _ => hE.mpr (fun i i0 i1 => h1 i i0 (by omega)), fun _ => rfl⟩ hfr)
      · intro (c1 : x6 < x5)
        refine And.intro (show 0 ≤ x6 ∧ x6 < 15 by omega) ?_
        refine And.intro ?_ ?_
        · intro (c2 : (M1 86 x6) = 1)
          show Q 322 [(6, (0, 0, 1, 16, x6 + 1)), (5, (0, 0, 0, 15, x5)), (0, (2, 60, 0, 0, 0))] [] M1
          refine hgo.2.1 322 _ [(6, (0, 0, 0, 15, x6 + 1)), (5, (0, 0, 0, 15, x5)), (0, (2, 60, 0, 0, 0))] _ _ (xa_subI rfl rfl (fun _ _ _ _ => by omega) (xa_subI rfl rfl (fun _ _ _ _ => by omega) (xa_subR rfl xa_sub0))) ?_
          exact ih4 (x6 + 1) x5 M1 (by omega) (by omega) hc hfr hE (fun i i0 i1 => by by_cases e : i = x6; (rw [e]; exact c2); (exact h1 i i0 (by omega))) (by omega)
        · intro (c2 : ¬ (M1 86 x6) = 1)
          show xa_wk post (some (0, 0, 0, 0, 0)) M1
          exact xa_wkI 0 rfl (fun _ _ => by omega) (k 0 _ (by omega) ⟨fun h => absurd h (by decide), fun h => absurd (hE.mp h x6 b6.1 c1) c2⟩ hfr)
  have loop3 : ∀ (n : Nat) (x6 x5 x4 : Int) (M1 : xa_M), 0 ≤ x6 ∧ x6 ≤ 15 → 0 ≤ x5 ∧ x5 ≤ 15 → 0 ≤ x4 ∧ x4 ≤ 15 → xm_cor M M1 → xm_fr M M1 → if_S (M 71 p * fs_u (M 81) (M 84) (M 60 32).toNat) (M 70 p * fs_d (M 81) (M 84) (M 60 32).toNat) M1 x4 x5 → if_C M1 x4 0 x5 → xm_ge M1 85 x4 → xm_ge M1 86 x5 → (∀ i : Int, 0 ≤ i → i < x6 → M1 85 i = 1) → 15 - x6 < (n : Int) → Q 292 [(6, (0, 0, 0, 15, x6)), (5, (0, 0, 0, 15, x5)), (4, (0, 0, 0, 15, x4)), (0, (2, 60, 0, 0, 0))] [] M1 := by
    intro n
    induction n with
    | zero => intro x6 x5 x4 M1 b6 b5 b4 hc hfr hS hC g5 g6 h1 hms; clear hS; omega
    | succ n ih3 =>
      intro x6 x5 x4 M1 b6 b5 b4 hc hfr hS hC g5 g6 h1 hms3
      refine hgo.1 16 [140, 217, 227, 292, 322] 292 _ _ _ ?_
      refine And.intro ?_ ?_
      · intro (c1 : x4 ≤ x6)
        show Q 322 [(6, (0, 0, 0, 0, 0)), (5, (0, 0, 0, 15, x5)), (4, (0, 0, 0, 15, x4)), (0, (2, 60, 0, 0, 0))] [] M1
        refine hgo.2.1 322 _ [(6, (0, 0, 0, 15, 0)), (5, (0, 0, 0, 15, x5)), (0, (2, 60, 0, 0, 0))] _ _ (xa_subI rfl rfl (fun _ _ _ _ => by omega) (xa_subI rfl rfl (fun _ _ _ _ => by omega) (xa_subR rfl xa_sub0))) ?_
        exact loop4 16 0 x5 M1 (by omega) (by omega) hc hfr ⟨fun h => (if_eq hS hC g5 g6 h).2, fun h => if_qe hS (fun i i0 i1 => h1 i i0 (by omega)) h⟩ (fun i i0 i1 => by omega) (by omega)
      · intro (c1 : x6 < x4)
        refine And.intro (show 0 ≤ x6 ∧ x6 < 15 by omega) ?_
        refine And.intro ?_ ?_
        · intro (c2 : (M1 85 x6) = 1)
          show Q 292 [(6, (0, 0, 1, 16, x6 + 1)), (5, (0, 0, 0, 15, x5)), (4, (0, 0, 0, 15, x4)), (0, (2, 60, 0, 0, 0))] [] M1
          refine hgo.2.1 292 _ [(6, (0, 0, 0, 15, x6 + 1)), (5, (0, 0, 0, 15, x5)), (4, (0, 0, 0, 15, x4)), (0, (2, 60, 0, 0, 0))] _ _ (xa_subI rfl rfl (fun _ _ _ _ => by omega) (xa_subI rfl rfl (fun _ _ _ _ => by omega) (xa_subI rfl rfl (fun _ _ _ _ => by omega) (xa_subR rfl xa_sub0)))) ?_
          exact ih3 (x6 + 1) x5 x4 M1 (by omega) (by omega) (by omega) hc hfr hS hC g5 g6 (fun i i0 i1 => by by_cases e : i = x6; (rw [e]; exact c2); (exact h1 i i0 (by omega))) (by omega)
        · intro (c2 : ¬ (M1 85 x6) = 1)
          show xa_wk post (some (0, 0, 0, 0, 0)) M1
          exact xa_wkI 0 rfl (fun _ _ => by omega) (k 0 _ (by omega) ⟨fun h => absurd h (by decide), fun h => absurd ((if_eq hS hC g5 g6 h).1 x6 b6.1 c1) c2⟩ hfr)
  have loop1 : ∀ (n : Nat) (x6 x5 x4 : Int) (M1 : xa_M), 0 ≤ x6 ∧ x6 ≤ 15 → 0 ≤ x5 ∧ x5 ≤ 15 → 0 ≤ x4 ∧ x4 ≤ 15 → xm_cor M M1 → xm_fr M M1 → xm_ge M1 85 x4 → xm_ge M1 86 x5 → if_S (M 71 p * fs_u (M 81) (M 84) (M 60 32).toNat) (M 70 p * fs_d (M 81) (M 84) (M 60 32).toNat) M1 x4 x5 → if_C M1 x6 0 x5 → 15 - x6 < (n : Int) → Q 217 [(6, (0, 0, 0, 15, x6)), (5, (0, 0, 0, 15, x5)), (4, (0, 0, 0, 15, x4)), (0, (2, 60, 0, 0, 0))] [] M1 := by
    intro n
    induction n with
    | zero => intro x6 x5 x4 M1 b6 b5 b4 hc hfr hg85 hg86 hS hC hms; omega
    | succ n ih1 =>
      intro x6 x5 x4 M1 b6 b5 b4 hc hfr hg85 hg86 hS hC hms1
      obtain ⟨n0, hn0⟩ : ∃ n0, n0 = n := ⟨_, rfl⟩
      have loop2 : ∀ (n : Nat) (x7 x6 x5 x4 : Int) (M1 : xa_M), 0 ≤ x7 ∧ x7 ≤ 15 → 0 ≤ x6 ∧ x6 ≤ 14 → 0 ≤ x5 ∧ x5 ≤ 15 → 0 ≤ x4 ∧ x4 ≤ 15 → xm_cor M M1 → xm_fr M M1 → xm_ge M1 85 x4 → xm_ge M1 86 x5 → x6 < x4 → 14 - x6 < (n0 : Int) → if_S (M 71 p * fs_u (M 81) (M 84) (M 60 32).toNat) (M 70 p * fs_d (M 81) (M 84) (M 60 32).toNat) M1 x4 x5 → if_C M1 x6 x7 x5 → 15 - x7 < (n : Int) → Q 227 [(7, (0, 0, 0, 15, x7)), (6, (0, 0, 0, 14, x6)), (5, (0, 0, 0, 15, x5)), (4, (0, 0, 0, 15, x4)), (0, (2, 60, 0, 0, 0))] [] M1 := by
        intro n
        induction n with
        | zero => intro x7 x6 x5 x4 M1 b7 b6 b5 b4 hc hfr hg85 hg86 h64 h60 hS hC hms; omega
        | succ n ih2 =>
          intro x7 x6 x5 x4 M1 b7 b6 b5 b4 hc hfr hg85 hg86 h64 h60 hS hC hms2
          have a1 := hg85 x6 (by omega) h64
          have a2 := fun h : x7 < x5 => hg86 x7 (by omega) h
          refine hgo.1 36 [140, 217, 227, 292, 322] 227 _ _ _ ?_
          refine And.intro ?_ ?_
          · intro (c1 : x5 ≤ x7)
            show Q 217 [(6, (0, 0, 1, 15, x6 + 1)), (7, (0, 0, 0, 15, x7)), (5, (0, 0, 0, 15, x5)), (4, (0, 0, 0, 15, x4)), (0, (2, 60, 0, 0, 0))] [] M1
            refine hgo.2.1 217 _ [(6, (0, 0, 0, 15, x6 + 1)), (5, (0, 0, 0, 15, x5)), (4, (0, 0, 0, 15, x4)), (0, (2, 60, 0, 0, 0))] _ _ (xa_subI rfl rfl (fun _ _ _ _ => by omega) (xa_subI rfl rfl (fun _ _ _ _ => by omega) (xa_subI rfl rfl (fun _ _ _ _ => by omega) (xa_subR rfl xa_sub0)))) ?_
            exact ih1 (x6 + 1) x5 x4 M1 (by omega) (by omega) (by omega) hc hfr hg85 hg86 hS (fun i j i0 j0 h => hC i j i0 j0 (by omega)) (by omega)
          · intro (c1 : x7 < x5)
            refine And.intro (show 0 ≤ x7 ∧ x7 < 15 by omega) ?_
            show xa_C xm_I A h0 _ 229 [(1, 0, (-9223372036854775808), 9223372036854775807, M1 85 x6), (1, 0, (-9223372036854775808), 9223372036854775807, M1 86 x7)] M1 _
            refine ct_gcd3 (by omega) (by omega) (fun g2 eg2 pg2 qg2 ug2 => ?_)
            have tx := xm_td (x := M1 85 x6) (g := g2) (by omega) (by omega)
            have ty := xm_td (x := M1 86 x7) (g := g2) (by omega) (by omega)
            refine And.intro (show 0 ≤ x7 ∧ x7 < 15 by omega) ?_
            refine And.intro (show 0 ≤ x7 ∧ x7 < 15 by omega) ?_
            show Q 227 [(7, (0, 0, 1, 16, x7 + 1)), (8, (1, 0, 1, 9223372036854775807, g2)), (6, (0, 0, 0, 14, x6)), (5, (0, 0, 0, 15, x5)), (4, (0, 0, 0, 15, x4)), (0, (2, 60, 0, 0, 0))] [] (xa_up (xa_up M1 85 x6 ((M1 85 x6).tdiv g2)) 86 x7 ((M1 86 x7).tdiv g2))
            refine hgo.2.1 227 _ [(7, (0, 0, 0, 15, x7 + 1)), (6, (0, 0, 0, 14, x6)), (5, (0, 0, 0, 15, x5)), (4, (0, 0, 0, 15, x4)), (0, (2, 60, 0, 0, 0))] _ _ (xa_subI rfl rfl (fun _ _ _ _ => by omega) (xa_subI rfl rfl (fun _ _ _ _ => by omega) (xa_subI rfl rfl (fun _ _ _ _ => by omega) (xa_subI rfl rfl (fun _ _ _ _ => by omega) (xa_subR rfl xa_sub0))))) ?_
            obtain ⟨s1, s2⟩ := if_st (g := g2) (u := (M1 85 x6).tdiv g2) (w := (M1 86 x7).tdiv g2) hS hC (by omega) (by omega) pg2 (if_tq pg2 (by omega) (by rw [eg2]; exact Int.gcd_dvd_left _ _)) (if_tq pg2 (by omega) (by rw [eg2]; exact Int.gcd_dvd_right _ _)) (if_cop (by omega) (by omega) eg2 pg2)
            exact ih2 (x7 + 1) x6 x5 x4 (xa_up (xa_up M1 85 x6 ((M1 85 x6).tdiv g2)) 86 x7 ((M1 86 x7).tdiv g2)) (by omega) (by omega) (by omega) (by omega) (xm_cor_a rfl (xm_cor_a rfl hc)) (xm_fr_u (by decide) (xm_fr_u (by decide) hfr)) (xm_ge_o (by decide) (xm_ge_i hg85 (by omega))) (xm_ge_i (xm_ge_o (by decide) hg86) (by omega)) (by omega) (by omega) s1 s2 (by omega)
      refine hgo.1 10 [140, 217, 227, 292, 322] 217 _ _ _ ?_
      refine And.intro ?_ ?_
      · intro (c1 : x4 ≤ x6)
        show Q 292 [(6, (0, 0, 0, 0, 0)), (5, (0, 0, 0, 15, x5)), (4, (0, 0, 0, 15, x4)), (0, (2, 60, 0, 0, 0))] [] M1
        refine hgo.2.1 292 _ [(6, (0, 0, 0, 15, 0)), (5, (0, 0, 0, 15, x5)), (4, (0, 0, 0, 15, x4)), (0, (2, 60, 0, 0, 0))] _ _ (xa_subI rfl rfl (fun _ _ _ _ => by omega) (xa_subI rfl rfl (fun _ _ _ _ => by omega) (xa_subI rfl rfl (fun _ _ _ _ => by omega) (xa_subR rfl xa_sub0)))) ?_
        exact loop3 16 0 x5 x4 M1 (by omega) (by omega) (by omega) hc hfr hS (fun i j i0 j0 h => hC i j i0 j0 (by omega)) hg85 hg86 (fun i i0 i1 => by omega) (by omega)
      · intro (c1 : x6 < x4)
        show Q 227 [(7, (0, 0, 0, 0, 0)), (6, (0, 0, 0, 15, x6)), (5, (0, 0, 0, 15, x5)), (4, (0, 0, 0, 15, x4)), (0, (2, 60, 0, 0, 0))] [] M1
        refine hgo.2.1 227 _ [(7, (0, 0, 0, 15, 0)), (6, (0, 0, 0, 14, x6)), (5, (0, 0, 0, 15, x5)), (4, (0, 0, 0, 15, x4)), (0, (2, 60, 0, 0, 0))] _ _ (xa_subI rfl rfl (fun _ _ _ _ => by omega) (xa_subI rfl rfl (fun _ _ _ _ => by omega) (xa_subI rfl rfl (fun _ _ _ _ => by omega) (xa_subI rfl rfl (fun _ _ _ _ => by omega) (xa_subR rfl xa_sub0))))) ?_
        exact loop2 16 0 x6 x5 x4 M1 (by omega) (by omega) (by omega) (by omega) hc hfr hg85 hg86 (by omega) (by omega) hS hC (by omega)
  have loop0 : ∀ (n : Nat) (x6 x5 x4 : Int) (M1 : xa_M), 0 ≤ x6 ∧ x6 ≤ 14 → 1 ≤ x5 ∧ x5 ≤ 15 → 1 ≤ x4 ∧ x4 ≤ 15 → xm_cor M M1 → xm_fr M M1 → xm_ge M1 85 x4 → xm_ge M1 86 x5 → x4 ≤ x6 + 1 → x5 ≤ x6 + 1 → x6 ≤ M 60 32 → if_p (M1 85) x4.toNat = M 71 p * fs_u (M 81) (M 84) x6.toNat → if_p (M1 86) x5.toNat = M 70 p * fs_d (M 81) (M 84) x6.toNat → 14 - x6 < (n : Int) → Q 140 [(6, (0, 0, 0, 14, x6)), (5, (0, 0, 1, 15, x5)), (4, (0, 0, 1, 15, x4)), (0, (2, 60, 0, 0, 0))] [] M1 := by
    intro n
    induction n with
    | zero => intro x6 x5 x4 M1 b6 b5 b4 hc hfr hg85 hg86 h46 h56 h63 hp5 hp6 hms; omega
    | succ n ih0 =>
      intro x6 x5 x4 M1 b6 b5 b4 hc hfr hg85 hg86 h46 h56 h63 hp5 hp6 hms0
      have e81 := hfr 81 x6 (by decide) (by decide)
      obtain ⟨us, ds⟩ := if_us (R := M 81) (V := M 84) (x := x6) (by omega)
      refine hgo.2.2 _ _ _ _ (fun hM1 _ => ?_)
      have b32 := xm_f32 hM1
      have e32 := hfr 60 32 (by decide) (by decide)
      have e84 := hfr 84 x6 (by decide) (by decide)
      have h10 := fun h : x6 < M 60 32 => ht x6 (by omega) h
      refine hgo.1 31 [140, 217, 227, 292, 322] 140 _ _ _ ?_
      refine And.intro ?_ ?_
      · intro (c1 : (M1 60 32) ≤ x6)
        show Q 217 [(6, (0, 0, 0, 0, 0)), (5, (0, 0, 1, 15, x5)), (4, (0, 0, 1, 15, x4)), (0, (2, 60, 0, 0, 0))] [] M1
        refine hgo.2.1 217 _ [(6, (0, 0, 0, 15, 0)), (5, (0, 0, 0, 15, x5)), (4, (0, 0, 0, 15, x4)), (0, (2, 60, 0, 0, 0))] _ _ (xa_subI rfl rfl (fun _ _ _ _ => by omega) (xa_subI rfl rfl (fun _ _ _ _ => by omega) (xa_subI rfl rfl (fun _ _ _ _ => by omega) (xa_subR rfl xa_sub0)))) ?_
        exact loop1 16 0 x5 x4 M1 (by omega) (by omega) (by omega) hc hfr hg85 hg86 ⟨1, by decide, by rw [Int.mul_one, hp5, show x6 = M 60 32 by omega], by rw [Int.mul_one, hp6, show x6 = M 60 32 by omega]⟩ (fun i j i0 j0 h => by omega) (by omega)
      · intro (c1 : x6 < (M1 60 32))
        refine And.intro (show 0 ≤ x6 ∧ x6 < 14 by omega) ?_
        refine And.intro ?_ ?_
        · intro (c2 : (M1 81 x6) ≤ 0)
          refine And.intro (show 0 ≤ x6 ∧ x6 < 14 by omega) ?_
          refine And.intro ?_ ?_
          · intro (c3 : 0 ≤ (M1 81 x6))
            show Q 140 [(6, (0, 0, 1, 15, x6 + 1)), (5, (0, 0, 1, 15, x5)), (4, (0, 0, 1, 15, x4)), (0, (2, 60, 0, 0, 0))] [] M1
            refine hgo.2.1 140 _ [(6, (0, 0, 0, 14, x6 + 1)), (5, (0, 0, 1, 15, x5)), (4, (0, 0, 1, 15, x4)), (0, (2, 60, 0, 0, 0))] _ _ (xa_subI rfl rfl (fun _ _ _ _ => by omega) (xa_subI rfl rfl (fun _ _ _ _ => by omega) (xa_subI rfl rfl (fun _ _ _ _ => by omega) (xa_subR rfl xa_sub0)))) ?_
            exact ih0 (x6 + 1) x5 x4 M1 (by omega) (by omega) (by omega) hc hfr hg85 hg86 (by omega) (by omega) (by omega) (by rw [us, if_neg (by omega), Int.mul_one]; exact hp5) (by rw [ds, if_neg (by omega), Int.mul_one]; exact hp6) (by omega)
          · intro (c3 : (M1 81 x6) < 0)
            refine And.intro (show 0 ≤ x6 ∧ x6 < 14 by omega) ?_
            refine And.intro (show 0 ≤ x5 ∧ x5 < 15 by omega) ?_
            show Q 140 [(6, (0, 0, 1, 15, x6 + 1)), (5, (0, 0, 2, 16, x5 + 1)), (4, (0, 0, 1, 15, x4)), (0, (2, 60, 0, 0, 0))] [] (xa_up M1 86 x5 (M1 84 x6))
            refine hgo.2.1 140 _ [(6, (0, 0, 0, 14, x6 + 1)), (5, (0, 0, 1, 15, x5 + 1)), (4, (0, 0, 1, 15, x4)), (0, (2, 60, 0, 0, 0))] _ _ (xa_subI rfl rfl (fun _ _ _ _ => by omega) (xa_subI rfl rfl (fun _ _ _ _ => by omega) (xa_subI rfl rfl (fun _ _ _ _ => by omega) (xa_subR rfl xa_sub0)))) ?_
            exact ih0 (x6 + 1) (x5 + 1) x4 (xa_up M1 86 x5 (M1 84 x6)) (by omega) (by omega) (by omega) (xm_cor_a rfl hc) (xm_fr_u (by decide) hfr) (xm_ge_o (by decide) hg85) (xm_ge_s hg86 (by omega)) (by omega) (by omega) (by omega) (by rw [show (xa_up M1 86 x5 (M1 84 x6)) 85 = M1 85 from funext (fun j => xa_up_ne (by omega)), us, if_neg (by omega), Int.mul_one]; exact hp5) (by rw [if_ad6 (by omega), ds, if_pos (by omega), hp6, e84, Int.mul_assoc]) (by omega)
        · intro (c2 : 0 < (M1 81 x6))
          refine And.intro (show 0 ≤ x6 ∧ x6 < 14 by omega) ?_
          refine And.intro (show 0 ≤ x4 ∧ x4 < 15 by omega) ?_
          show Q 140 [(6, (0, 0, 1, 15, x6 + 1)), (4, (0, 0, 2, 16, x4 + 1)), (5, (0, 0, 1, 15, x5)), (0, (2, 60, 0, 0, 0))] [] (xa_up M1 85 x4 (M1 84 x6))
          refine hgo.2.1 140 _ [(6, (0, 0, 0, 14, x6 + 1)), (5, (0, 0, 1, 15, x5)), (4, (0, 0, 1, 15, x4 + 1)), (0, (2, 60, 0, 0, 0))] _ _ (xa_subI rfl rfl (fun _ _ _ _ => by omega) (xa_subI rfl rfl (fun _ _ _ _ => by omega) (xa_subI rfl rfl (fun _ _ _ _ => by omega) (xa_subR rfl xa_sub0)))) ?_
          exact ih0 (x6 + 1) x5 (x4 + 1) (xa_up M1 85 x4 (M1 84 x6)) (by omega) (by omega) (by omega) (xm_cor_a rfl hc) (xm_fr_u (by decide) hfr) (xm_ge_s hg85 (by omega)) (xm_ge_o (by decide) hg86) (by omega) (by omega) (by omega) (by rw [if_ad5 (by omega), us, if_pos (by omega), hp5, e84, Int.mul_assoc]) (by rw [show (xa_up M1 85 x4 (M1 84 x6)) 86 = M1 86 from funext (fun j => xa_up_ne (by omega)), ds, if_neg (by omega), Int.mul_one]; exact hp6) (by omega)
  refine hgo.1 31 [140, 217, 227, 292, 322] 97 _ _ _ ?_
  show Q 140 [(6, (0, 0, 0, 0, 0)), (5, (0, 0, 1, 1, 0 + 1)), (4, (0, 0, 1, 1, 0 + 1)), (1, (0, 0, 0, 7, p)), (0, (2, 60, 0, 0, 0))] [] (xa_up (xa_up M 85 0 (M 71 p)) 86 0 (M 70 p))
  refine hgo.2.1 140 _ [(6, (0, 0, 0, 14, 0)), (5, (0, 0, 1, 15, 0 + 1)), (4, (0, 0, 1, 15, 0 + 1)), (0, (2, 60, 0, 0, 0))] _ _ (xa_subI rfl rfl (fun _ _ _ _ => by omega) (xa_subI rfl rfl (fun _ _ _ _ => by omega) (xa_subI rfl rfl (fun _ _ _ _ => by omega) (xa_subR rfl xa_sub0)))) ?_
  exact loop0 15 0 (0 + 1) (0 + 1) (xa_up (xa_up M 85 0 (M 71 p)) 86 0 (M 70 p)) (by omega) (by omega) (by omega) (xm_cor_a rfl (xm_cor_a rfl xm_cor_r)) (xm_fr_u (by decide) (xm_fr_u (by decide) (fun _ _ _ _ => rfl))) (xm_ge_o (by decide) (xm_ge_s xm_ge_z (by omega))) (xm_ge_s (xm_ge_o (by decide) xm_ge_z) (by omega)) (by omega) (by omega) (by have := xm_f32 hM; omega) (by show 1 * (xa_up (xa_up M 85 0 (M 71 p)) 86 0 (M 70 p)) 85 0 = M 71 p * 1; rw [Int.one_mul, Int.mul_one]; exact (xa_up_ne (by omega)).trans xa_up_eq) (by show 1 * (xa_up (xa_up M 85 0 (M 71 p)) 86 0 (M 70 p)) 86 0 = M 70 p * 1; rw [Int.one_mul, Int.mul_one]; exact xa_up_eq) (by omega)
