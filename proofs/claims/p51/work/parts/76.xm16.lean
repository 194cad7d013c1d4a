-- areTooMany, firstWay, nextWay of the model (made by wip/p24/xa/xm15.py)
set_option maxRecDepth 20000
/-- tried alone differs -/
def xm_84 (M M1 : xa_M) : Prop := ∀ q j, q ≠ 84 → M1 q j = M q j
theorem xm_84_r {M : xa_M} : xm_84 M M := fun _ _ _ => rfl
theorem xm_84_u {M M1 : xa_M} {i v : Int} (h : xm_84 M M1) : xm_84 M (xa_up M1 84 i v) := by
  intro q j hq
  have := h q j hq
  simp [xa_up, hq, this]
theorem xm_84_c {M M1 : xa_M} (h : xm_84 M M1) : xm_cor M M1 := by
  intro q j hs
  refine h q j (fun e => hs ?_)
  subst e
  exact Or.inl (by decide)
/-- the numbers tried lie between the least and the most of their wheels -/
def xm_fit (M : xa_M) : Prop := ∀ i, 0 ≤ i → i < M 60 32 → M 61 (M 80 i) ≤ M 84 i ∧ M 84 i ≤ M 62 (M 80 i)
/-- what a wheel of the way can have; how many ways; how many are left at most -/
def xm_sp (M : xa_M) (k : Int) : Int := M 62 (M 80 k) - M 61 (M 80 k) + 1
def xm_pr (M : xa_M) : Nat → Int
  | 0 => 1
  | k + 1 => xm_pr M k * xm_sp M k
def xm_rk (M : xa_M) : Nat → Int
  | 0 => 0
  | k + 1 => xm_rk M k * xm_sp M k + (M 62 (M 80 k) - M 84 k)
theorem xm_sp_84 {M M1 : xa_M} (h : xm_84 M M1) (k : Int) : xm_sp M1 k = xm_sp M k := by
  unfold xm_sp
  rw [h 80 k (by decide), h 62 _ (by decide), h 61 _ (by decide)]
theorem xm_pr_84 {M M1 : xa_M} (h : xm_84 M M1) : ∀ n : Nat, xm_pr M1 n = xm_pr M n := by
  intro n
  induction n with
  | zero => rfl
  | succ n ih =>
    show xm_pr M1 n * xm_sp M1 n = xm_pr M n * xm_sp M n
    rw [ih, xm_sp_84 h]
theorem xm_rkb {M : xa_M} (hF : xm_fit M) : ∀ n : Nat, (n : Int) ≤ M 60 32 → 0 ≤ xm_rk M n ∧ xm_rk M n < xm_pr M n := by
  intro n
  induction n with
  | zero => intro _; exact ⟨Int.le_refl 0, (by decide : (0 : Int) < 1)⟩
  | succ n ih =>
    intro hn
    obtain ⟨a, b⟩ := ih (by omega)
    have f := hF n (by omega) (by omega)
    show 0 ≤ xm_rk M n * xm_sp M n + (M 62 (M 80 n) - M 84 n) ∧ xm_rk M n * xm_sp M n + (M 62 (M 80 n) - M 84 n) < xm_pr M n * xm_sp M n
    have s1 : xm_sp M n = M 62 (M 80 n) - M 61 (M 80 n) + 1 := rfl
    have p1 : 0 ≤ xm_rk M n * xm_sp M n := Int.mul_nonneg a (by omega)
    have p2 : xm_rk M n * xm_sp M n ≤ (xm_pr M n - 1) * xm_sp M n := Int.mul_le_mul_of_nonneg_right (by omega) (by omega)
    rw [Int.sub_mul, Int.one_mul] at p2
    omega
theorem xm_rke {M M1 : xa_M} (h84 : xm_84 M M1) : ∀ n : Nat, (∀ i : Int, 0 ≤ i → i < n → M1 84 i = M 84 i) → xm_rk M1 n = xm_rk M n := by
  intro n
  induction n with
  | zero => intro _; rfl
  | succ n ih =>
    intro h
    show xm_rk M1 n * xm_sp M1 n + (M1 62 (M1 80 n) - M1 84 n) = xm_rk M n * xm_sp M n + (M 62 (M 80 n) - M 84 n)
    rw [ih (fun i h0 h1 => h i h0 (by omega)), h n (by omega) (by omega), xm_sp_84 h84, h84 80 n (by decide), h84 62 _ (by decide)]
theorem xm_rkl {M M1 : xa_M} {k : Nat} (h84 : xm_84 M M1) (hF : xm_fit M) (hF1 : xm_fit M1) (hk : ∀ i : Int, 0 ≤ i → i < k → M1 84 i = M 84 i) (hk1 : M1 84 k = M 84 k + 1) : ∀ n : Nat, k < n → (n : Int) ≤ M 60 32 → xm_rk M1 n < xm_rk M n := by
  intro n
  induction n with
  | zero => intro h; omega
  | succ n ih =>
    intro hn hn2
    have e1 := h84 80 n (by decide)
    have e2 := h84 62 (M 80 n) (by decide)
    have e3 := h84 61 (M 80 n) (by decide)
    show xm_rk M1 n * xm_sp M1 n + (M1 62 (M1 80 n) - M1 84 n) < xm_rk M n * xm_sp M n + (M 62 (M 80 n) - M 84 n)
    rw [xm_sp_84 h84, e1, e2]
    by_cases e : n = k
    · subst e
      rw [xm_rke h84 n hk, hk1]
      omega
    · have a := ih (by omega) (by omega)
      have f := hF n (by omega) (by omega)
      have f1 := hF1 n (by omega) (by rw [h84 60 32 (by decide)]; omega)
      rw [e1, e2, e3] at f1
      have s1 : xm_sp M n = M 62 (M 80 n) - M 61 (M 80 n) + 1 := rfl
      have p2 : xm_rk M1 n * xm_sp M n ≤ (xm_rk M n - 1) * xm_sp M n := Int.mul_le_mul_of_nonneg_right (by omega) (by omega)
      rw [Int.sub_mul, Int.one_mul] at p2
      omega
theorem xm_prs {M : xa_M} {x y : Int} (h : 0 ≤ x) (e : y = xm_pr M x.toNat) : y * (M 62 (M 80 x) - M 61 (M 80 x) + 1) = xm_pr M (x + 1).toNat := by
  have e1 : (x + 1).toNat = x.toNat + 1 := by omega
  have e2 : ((x.toNat : Nat) : Int) = x := Int.toNat_of_nonneg h
  rw [e1]
  show _ = xm_pr M x.toNat * xm_sp M ((x.toNat : Nat) : Int)
  rw [e2, ← e]
  rfl
/-- the wheels of the way are wheels -/
def xm_way (M : xa_M) : Prop := ∀ i, 0 ≤ i → i < M 60 32 → M 80 i < M 60 0
theorem xm_way_sp {M : xa_M} (hM : xa_Mok xm_I M) (hI : xm_Inv M) (hw : xm_way M) (i : Int) (h0 : 0 ≤ i) (h1 : i < M 60 32) : 10 ≤ M 61 (M 80 i) ∧ M 61 (M 80 i) ≤ M 62 (M 80 i) := by
  have := xm_f32 hM
  have := xm_t80 hM i h0 (by omega)
  have := hI.1 (M 80 i) this.1 (hw i h0 h1)
  omega
theorem xm_up84 (M : xa_M) (i v j : Int) : xa_up M 84 i v 84 j = if j = i then v else M 84 j := by
  simp [xa_up]
theorem xm_nxf {M M1 : xa_M} (hF : xm_fit M) (h84 : xm_84 M M1) (h : ∀ i, 0 ≤ i → i < M 60 32 → M1 84 i = M 61 (M 80 i)) : xm_fit M1 := by
  intro i i0 i1
  rw [h84 60 32 (by decide)] at i1
  have := hF i i0 i1
  rw [h84 80 i (by decide), h84 61 _ (by decide), h84 62 _ (by decide), h i i0 i1]
  omega
theorem xm_nxg {M M1 : xa_M} {x v : Int} (hF : xm_fit M) (h84 : xm_84 M M1) (hlo : ∀ i, 0 ≤ i → i ≤ x → M1 84 i = M 84 i) (hhi : ∀ i, x < i → i < M 60 32 → M1 84 i = M 61 (M 80 i)) (hx : 0 ≤ x) (h1 : M 61 (M 80 x) ≤ v) (h2 : v ≤ M 62 (M 80 x)) : xm_fit (xa_up M1 84 x v) := by
  intro i i0 i1
  have hu := xm_84_u (i := x) (v := v) h84
  rw [hu 60 32 (by decide)] at i1
  have hf := hF i i0 i1
  rw [hu 80 i (by decide), hu 61 _ (by decide), hu 62 _ (by decide), xm_up84]
  split
  · rename_i e
    rw [e]
    exact ⟨h1, h2⟩
  · by_cases c : i ≤ x
    · rw [hlo i i0 c]
      exact hf
    · rw [hhi i (by omega) i1]
      omega
theorem xm_nxr {M M1 : xa_M} {x v : Int} (h84 : xm_84 M M1) (hF : xm_fit M) (hF1 : xm_fit (xa_up M1 84 x v)) (hlo : ∀ i, 0 ≤ i → i ≤ x → M1 84 i = M 84 i) (hx : 0 ≤ x ∧ x < M 60 32) (hv : v = M 84 x + 1) : xm_rk (xa_up M1 84 x v) (M 60 32).toNat < xm_rk M (M 60 32).toNat := by
  have ex : ((x.toNat : Nat) : Int) = x := Int.toNat_of_nonneg hx.1
  refine xm_rkl (k := x.toNat) (xm_84_u h84) hF hF1 (fun i i0 i1 => ?_) ?_ (M 60 32).toNat (by omega) (by omega)
  · rw [xm_up84, if_neg (by omega)]
    exact hlo i i0 (by omega)
  · rw [ex, xm_up84, if_pos rfl, hv]
theorem ct_areTooMany {A : Nat → Nat} {h0 : g_H} {d : Nat} {M : xa_M} {post : Option xa_V → xa_M → Prop} (hI : xm_Inv M) (hw : xm_way M) (k : ∀ r : Int, (r = 0 ∨ r = 1) → (r = 0 → xm_pr M (M 60 32).toNat ≤ 200000) → post (some (0, 0, 0, 1, r)) M) : xa_C xm_I A h0 (d + 1) 240 [(2, 60, 0, 0, 0)] M post := by
  refine xa_C_wk ?_
  refine xa_meth (Q0 := (5, 2, false, 0, 0, 12)) (by decide +kernel) ⟨rfl, rfl⟩ (full := s_c_240) rfl rfl ?_
  intro hM hv Q hgo
  have loop0 : ∀ (n : Nat) (x3 x1 : Int), 0 ≤ x3 ∧ x3 ≤ 14 → 1 ≤ x1 ∧ x1 ≤ 200000 → x3 ≤ M 60 32 → x1 = xm_pr M x3.toNat → 14 - x3 < (n : Int) → Q 4 [(3, (0, 0, 0, 14, x3)), (1, (1, 0, 1, 200000, x1)), (0, (2, 60, 0, 0, 0))] [] M := by
    intro n
    induction n with
    | zero => intro x3 x1 b3 b1 h32 hpr hms; omega
    | succ n ih0 =>
      intro x3 x1 b3 b1 h32 hpr hms0
      have b32 := xm_f32 hM
      have t80 : x3 < M 60 32 → 0 ≤ M 80 x3 ∧ M 80 x3 ≤ 13 := fun h => xm_t80 hM x3 (by omega) (by omega)
      have hs := fun h : x3 < M 60 32 => xm_way_sp hM hI hw x3 (by omega) h
      have hp : x3 < M 60 32 → 1 ≤ x1 * (M 62 (M 80 x3) - M 61 (M 80 x3) + 1) := fun h => by
        have := Int.mul_pos (show 0 < x1 by omega) (show 0 < M 62 (M 80 x3) - M 61 (M 80 x3) + 1 by have := hs h; omega)
        omega
      refine hgo.1 34 [4] 4 _ _ _ ?_
      refine And.intro ?_ ?_
      · intro (c1 : (M 60 32) ≤ x3)
        show xa_wk post (some (0, 0, 0, 0, 0)) M
        exact xa_wkI 0 rfl (fun _ _ => by omega) (k 0 (by omega) (fun e => by first | (exfalso; omega) | (rw [show M 60 32 = x3 by omega, ← hpr]; omega)))
      · intro (c1 : x3 < (M 60 32))
        refine And.intro (show 0 ≤ x3 ∧ x3 < 14 by omega) ?_
        refine And.intro ?_ ?_
        · intro (c2 : (x1 * (((M 62 (M 80 x3)) - (M 61 (M 80 x3))) + 1)) ≤ 200000)
          show Q 4 [(3, (0, 0, 1, 15, x3 + 1)), (1, (1, 0, (-79800000), 80200000, x1 * (((M 62 (M 80 x3)) - (M 61 (M 80 x3))) + 1))), (4, (0, 0, 0, 13, M 80 x3)), (0, (2, 60, 0, 0, 0))] [] M
          refine hgo.2.1 4 _ [(3, (0, 0, 0, 14, x3 + 1)), (1, (1, 0, 1, 200000, x1 * (((M 62 (M 80 x3)) - (M 61 (M 80 x3))) + 1))), (0, (2, 60, 0, 0, 0))] _ _ (xa_subI rfl rfl (fun _ _ _ _ => by omega) (xa_subL rfl rfl (fun _ _ _ _ => by omega) (xa_subR rfl xa_sub0))) ?_
          exact ih0 (x3 + 1) (x1 * (((M 62 (M 80 x3)) - (M 61 (M 80 x3))) + 1)) (by omega) (by omega) (by have := xm_f32 hM; omega) (xm_prs (by omega) hpr) (by omega)
        · intro (c2 : 200000 < (x1 * (((M 62 (M 80 x3)) - (M 61 (M 80 x3))) + 1)))
          show xa_wk post (some (0, 0, 1, 1, 1)) M
          exact xa_wkI 1 rfl (fun _ _ => by omega) (k 1 (by omega) (fun e => by first | (exfalso; omega) | (rw [show M 60 32 = x3 by omega, ← hpr]; omega)))
  refine hgo.1 9 [4] 0 _ _ _ ?_
  show Q 4 [(3, (0, 0, 0, 0, 0)), (1, (1, 0, 1, 1, 1)), (0, (2, 60, 0, 0, 0))] [] M
  refine hgo.2.1 4 _ [(3, (0, 0, 0, 14, 0)), (1, (1, 0, 1, 200000, 1)), (0, (2, 60, 0, 0, 0))] _ _ (xa_subI rfl rfl (fun _ _ _ _ => by omega) (xa_subL rfl rfl (fun _ _ _ _ => by omega) (xa_subR rfl xa_sub0))) ?_
  exact loop0 15 0 1 (by omega) (by omega) (by have := xm_f32 hM; omega) rfl (by omega)
theorem ct_firstWay {A : Nat → Nat} {h0 : g_H} {d : Nat} {M : xa_M} {post : Option xa_V → xa_M → Prop} (k : ∀ (M1 : xa_M), xm_84 M M1 → (∀ i, 0 ≤ i → i < M 60 32 → M1 84 i = M 61 (M 80 i)) → post none M1) : xa_C xm_I A h0 (d + 1) 241 [(2, 60, 0, 0, 0)] M post := by
  refine xa_meth (Q0 := (2, 0, false, 0, 0, 12)) (by decide +kernel) ⟨rfl, rfl⟩ (full := s_c_241) rfl rfl ?_
  intro hM hv Q hgo
  have loop0 : ∀ (n : Nat) (x1 : Int) (M1 : xa_M), 0 ≤ x1 ∧ x1 ≤ 14 → xm_cor M M1 → xm_84 M M1 → (∀ i, 0 ≤ i → i < x1 → M1 84 i = M 61 (M 80 i)) → 14 - x1 < (n : Int) → Q 2 [(1, (0, 0, 0, 14, x1)), (0, (2, 60, 0, 0, 0))] [] M1 := by
    intro n
    induction n with
    | zero => intro x1 M1 b1 hc h84 hti hms; omega
    | succ n ih0 =>
      intro x1 M1 b1 hc h84 hti hms0
      have e32 := h84 60 32 (by decide)
      have e80 := h84 80 x1 (by decide)
      have e61 : M1 61 (M1 80 x1) = M 61 (M 80 x1) := by rw [e80]; exact h84 61 _ (by decide)
      have b32 := xm_f32 hM
      have t80 : x1 < M 60 32 → 0 ≤ M 80 x1 ∧ M 80 x1 ≤ 13 := fun h => xm_t80 hM x1 (by omega) (by omega)
      have t61 : x1 < M 60 32 → 0 ≤ M 61 (M 80 x1) ∧ M 61 (M 80 x1) ≤ 400 := fun h => xm_t61 hM _ (t80 h).1 (by have := t80 h; omega)
      refine hgo.1 22 [2] 2 _ _ _ ?_
      refine And.intro ?_ ?_
      · intro (c1 : (M1 60 32) ≤ x1)
        show post none M1
        exact k _ h84 (fun i i0 i1 => hti i i0 (by have := h84 60 32 (by decide); omega))
      · intro (c1 : x1 < (M1 60 32))
        refine And.intro (show 0 ≤ x1 ∧ x1 < 14 by omega) ?_
        refine And.intro (show 0 ≤ x1 ∧ x1 < 14 by omega) ?_
        show Q 2 [(1, (0, 0, 1, 15, x1 + 1)), (0, (2, 60, 0, 0, 0))] [] (xa_up M1 84 x1 (M1 61 (M1 80 x1)))
        refine hgo.2.1 2 _ [(1, (0, 0, 0, 14, x1 + 1)), (0, (2, 60, 0, 0, 0))] _ _ (xa_subI rfl rfl (fun _ _ _ _ => by omega) (xa_subR rfl xa_sub0)) ?_
        exact ih0 (x1 + 1) (xa_up M1 84 x1 (M1 61 (M1 80 x1))) (by omega) (xm_cor_a rfl hc) (xm_84_u h84) (fun i i0 i1 => by rw [xm_up84]; by_cases e : i = x1; (rw [if_pos e, e, e61]); (rw [if_neg e]; exact hti i i0 (by omega))) (by omega)
  refine hgo.1 7 [2] 0 _ _ _ ?_
  show Q 2 [(1, (0, 0, 0, 0, 0)), (0, (2, 60, 0, 0, 0))] [] M
  refine hgo.2.1 2 _ [(1, (0, 0, 0, 14, 0)), (0, (2, 60, 0, 0, 0))] _ _ (xa_subI rfl rfl (fun _ _ _ _ => by omega) (xa_subR rfl xa_sub0)) ?_
  exact loop0 15 0 M (by omega) xm_cor_r xm_84_r (fun i i0 i1 => by omega) (by omega)
theorem ct_nextWay {A : Nat → Nat} {h0 : g_H} {d : Nat} {M : xa_M} {post : Option xa_V → xa_M → Prop} (hF : xm_fit M) (k : ∀ (r : Int) (M1 : xa_M), (r = 0 ∨ r = 1) → xm_84 M M1 → xm_fit M1 → (r = 1 → xm_rk M1 (M 60 32).toNat < xm_rk M (M 60 32).toNat) → post (some (0, 0, 0, 1, r)) M1) : xa_C xm_I A h0 (d + 1) 243 [(2, 60, 0, 0, 0)] M post := by
  refine xa_C_wk ?_
  refine xa_meth (Q0 := (2, 2, false, 0, 0, 12)) (by decide +kernel) ⟨rfl, rfl⟩ (full := s_c_243) rfl rfl ?_
  intro hM hv Q hgo
  have b32 := xm_f32 hM
  have loop0 : ∀ (n : Nat) (x1 : Int) (M1 : xa_M), (-1) ≤ x1 ∧ x1 ≤ 13 → xm_cor M M1 → xm_84 M M1 → x1 < M 60 32 → (∀ i, 0 ≤ i → i ≤ x1 → M1 84 i = M 84 i) → (∀ i, x1 < i → i < M 60 32 → M1 84 i = M 61 (M 80 i)) → x1 + 1 < (n : Int) → Q 7 [(1, (0, 0, (-1), 13, x1)), (0, (2, 60, 0, 0, 0))] [] M1 := by
    intro n
    induction n with
    | zero => intro x1 M1 b1 hc h84 hw hlo hhi hms; omega
    | succ n ih0 =>
      intro x1 M1 b1 hc h84 hw hlo hhi hms0
      refine hgo.2.2 _ _ _ _ (fun hM1 _ => ?_)
      have e32 := h84 60 32 (by decide)
      have e80 := h84 80 x1 (by decide)
      have e61 : M1 61 (M1 80 x1) = M 61 (M 80 x1) := by rw [e80]; exact h84 61 _ (by decide)
      have e62 : M1 62 (M1 80 x1) = M 62 (M 80 x1) := by rw [e80]; exact h84 62 _ (by decide)
      have t80 : 0 ≤ x1 → 0 ≤ M 80 x1 ∧ M 80 x1 ≤ 13 := fun h => xm_t80 hM x1 (by omega) (by omega)
      have t61 : 0 ≤ x1 → 0 ≤ M 61 (M 80 x1) ∧ M 61 (M 80 x1) ≤ 400 := fun h => xm_t61 hM _ (t80 h).1 (by have := t80 h; omega)
      have t62 : 0 ≤ x1 → 0 ≤ M 62 (M 80 x1) ∧ M 62 (M 80 x1) ≤ 400 := fun h => xm_t62 hM _ (t80 h).1 (by have := t80 h; omega)
      have f1 : 0 ≤ x1 → M 61 (M 80 x1) ≤ M 84 x1 ∧ M 84 x1 ≤ M 62 (M 80 x1) := fun h => hF x1 h (by omega)
      have q1 : 0 ≤ x1 → M1 84 x1 = M 84 x1 := fun h => hlo x1 h (by omega)
      refine hgo.1 32 [7] 7 _ _ _ ?_
      refine And.intro ?_ ?_
      · intro (c1 : x1 < 0)
        refine And.intro ?_ ?_
        · intro (c2 : 0 ≤ x1)
          refine And.intro (show 0 ≤ x1 ∧ x1 < 14 by omega) ?_
          refine And.intro (show 0 ≤ x1 ∧ x1 < 14 by omega) ?_
          refine And.intro (show 0 ≤ ((M1 84 x1) + 1) ∧ ((M1 84 x1) + 1) ≤ 400 by omega) ?_
          show xa_wk post (some (0, 0, 1, 1, 1)) (xa_up M1 84 x1 ((M1 84 x1) + 1))
          exact xa_wkI 1 rfl (fun _ _ => by omega) (k 1 _ (Or.inr rfl) (xm_84_u h84) (xm_nxg hF h84 hlo hhi (by omega) (by omega) (by omega)) (fun _ => xm_nxr h84 hF (xm_nxg hF h84 hlo hhi (by omega) (by omega) (by omega)) hlo (by omega) (by omega)))
        · intro (c2 : x1 < 0)
          show xa_wk post (some (0, 0, 0, 0, 0)) M1
          exact xa_wkI 0 rfl (fun _ _ => by omega) (k 0 M1 (Or.inl rfl) h84 (xm_nxf hF h84 (fun i i0 i1 => hhi i (by omega) (by omega))) (fun e => absurd e (by decide)))
      · intro (c1 : 0 ≤ x1)
        refine And.intro (show 0 ≤ x1 ∧ x1 < 14 by omega) ?_
        refine And.intro (show 0 ≤ x1 ∧ x1 < 14 by omega) ?_
        refine And.intro ?_ ?_
        · intro (c3 : ¬ (M1 84 x1) = (M1 62 (M1 80 x1)))
          refine And.intro ?_ ?_
          · intro (c4 : 0 ≤ x1)
            refine And.intro (show 0 ≤ x1 ∧ x1 < 14 by omega) ?_
            refine And.intro (show 0 ≤ x1 ∧ x1 < 14 by omega) ?_
            refine And.intro (show 0 ≤ ((M1 84 x1) + 1) ∧ ((M1 84 x1) + 1) ≤ 400 by omega) ?_
            show xa_wk post (some (0, 0, 1, 1, 1)) (xa_up M1 84 x1 ((M1 84 x1) + 1))
            exact xa_wkI 1 rfl (fun _ _ => by omega) (k 1 _ (Or.inr rfl) (xm_84_u h84) (xm_nxg hF h84 hlo hhi (by omega) (by omega) (by omega)) (fun _ => xm_nxr h84 hF (xm_nxg hF h84 hlo hhi (by omega) (by omega) (by omega)) hlo (by omega) (by omega)))
          · intro (c4 : x1 < 0)
            show xa_wk post (some (0, 0, 0, 0, 0)) M1
            exact xa_wkI 0 rfl (fun _ _ => by omega) (k 0 M1 (Or.inl rfl) h84 (xm_nxf hF h84 (fun i i0 i1 => hhi i (by omega) (by omega))) (fun e => absurd e (by decide)))
        · intro (c3 : (M1 84 x1) = (M1 62 (M1 80 x1)))
          refine And.intro (show 0 ≤ x1 ∧ x1 < 14 by omega) ?_
          refine And.intro (show 0 ≤ x1 ∧ x1 < 14 by omega) ?_
          show Q 7 [(1, (0, 0, (-2), 12, x1 + (-1))), (0, (2, 60, 0, 0, 0))] [] (xa_up M1 84 x1 (M1 61 (M1 80 x1)))
          refine hgo.2.1 7 _ [(1, (0, 0, (-1), 13, x1 + (-1))), (0, (2, 60, 0, 0, 0))] _ _ (xa_subI rfl rfl (fun _ _ _ _ => by omega) (xa_subR rfl xa_sub0)) ?_
          exact ih0 (x1 + (-1)) (xa_up M1 84 x1 (M1 61 (M1 80 x1))) (by omega) (xm_cor_a rfl hc) (xm_84_u h84) (by omega) (fun i i0 i1 => by rw [xm_up84, if_neg (by omega)]; exact hlo i i0 (by omega)) (fun i i0 i1 => by rw [xm_up84]; by_cases e : i = x1; (rw [if_pos e, e, e61]); (rw [if_neg e]; exact hhi i (by omega) i1)) (by omega)
  refine hgo.1 10 [7] 0 _ _ _ ?_
  show Q 7 [(1, (0, 0, (-1), 13, (M 60 32) - 1)), (0, (2, 60, 0, 0, 0))] [] M
  refine hgo.2.1 7 _ [(1, (0, 0, (-1), 13, (M 60 32) - 1)), (0, (2, 60, 0, 0, 0))] _ _ (xa_subI rfl rfl (fun _ _ _ _ => by omega) (xa_subR rfl xa_sub0)) ?_
  exact loop0 15 ((M 60 32) - 1) M (by omega) xm_cor_r xm_84_r (by omega) (fun i i0 i1 => rfl) (fun i i0 i1 => by omega) (by omega)
