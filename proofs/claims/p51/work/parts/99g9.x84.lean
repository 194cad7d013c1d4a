set_option maxRecDepth 20000
/-- the wheels of S are all that is left -/
def rw_cv (G : Int → Int → Prop) (N S i : Int) : Prop := ∃ v, (0 ≤ v ∧ v < N) ∧ bt S v = 1 ∧ G i v
def rw_cov (G : Int → Int → Prop) (N L S : Int) : Prop := ∀ i, 0 ≤ i → i < L → rw_cv G N S i
theorem rw_cov_e {G G' : Int → Int → Prop} {N L S : Int} (e : ∀ i v, 0 ≤ i → i < L → 0 ≤ v → v < N → (G i v ↔ G' i v)) : rw_cov G N L S ↔ rw_cov G' N L S := by
  constructor
  · intro h i i0 i1
    obtain ⟨v, hv, hb, hg⟩ := h i i0 i1
    exact ⟨v, hv, hb, (e i v i0 i1 hv.1 hv.2).mp hg⟩
  · intro h i i0 i1
    obtain ⟨v, hv, hb, hg⟩ := h i i0 i1
    exact ⟨v, hv, hb, (e i v i0 i1 hv.1 hv.2).mpr hg⟩
/-- the least of the sets below n that cover, by its count -/
def rw_mb (G : Int → Int → Prop) (N L n x : Int) : Prop := (x = -1 ∧ ∀ S, 0 ≤ S → S < n → ¬ rw_cov G N L S) ∨ (∃ S, (0 ≤ S ∧ S < n) ∧ rw_cov G N L S ∧ (x = xa_bc S ∧ 0 ≤ x) ∧ ∀ S', 0 ≤ S' → S' < n → rw_cov G N L S' → x ≤ xa_bc S')
/-- the least by its count, told another way -/
def rw_mc (G : Int → Int → Prop) (N L n : Int) : Prop := (∀ S, rw_cov G N L S → n ≤ cn S) ∧ ∃ S, (0 ≤ S ∧ S < xa_ib 6 1 N) ∧ rw_cov G N L S ∧ cn S ≤ n
def rw_pc : Nat → Nat → Nat
  | 0, _ => 0
  | k + 1, u => rw_pc k u + (if u.testBit k = true then 1 else 0)
def rw_bcQ (a : Nat) : Bool := (List.range 512).all fun b => decide (xa_bc ((512 * a + b : Nat) : Int) = ((rw_pc 14 (512 * a + b) : Nat) : Int))
theorem rw_bcQ_0 : rw_bcQ 0 = true := by decide +kernel
theorem rw_bcQ_1 : rw_bcQ 1 = true := by decide +kernel
theorem rw_bcQ_2 : rw_bcQ 2 = true := by decide +kernel
theorem rw_bcQ_3 : rw_bcQ 3 = true := by decide +kernel
theorem rw_bcQ_4 : rw_bcQ 4 = true := by decide +kernel
theorem rw_bcQ_5 : rw_bcQ 5 = true := by decide +kernel
theorem rw_bcQ_6 : rw_bcQ 6 = true := by decide +kernel
theorem rw_bcQ_7 : rw_bcQ 7 = true := by decide +kernel
theorem rw_bcQ_8 : rw_bcQ 8 = true := by decide +kernel
theorem rw_bcQ_9 : rw_bcQ 9 = true := by decide +kernel
theorem rw_bcQ_10 : rw_bcQ 10 = true := by decide +kernel
theorem rw_bcQ_11 : rw_bcQ 11 = true := by decide +kernel
theorem rw_bcQ_12 : rw_bcQ 12 = true := by decide +kernel
theorem rw_bcQ_13 : rw_bcQ 13 = true := by decide +kernel
theorem rw_bcQ_14 : rw_bcQ 14 = true := by decide +kernel
theorem rw_bcQ_15 : rw_bcQ 15 = true := by decide +kernel
theorem rw_bcQ_16 : rw_bcQ 16 = true := by decide +kernel
theorem rw_bcQ_17 : rw_bcQ 17 = true := by decide +kernel
theorem rw_bcQ_18 : rw_bcQ 18 = true := by decide +kernel
theorem rw_bcQ_19 : rw_bcQ 19 = true := by decide +kernel
theorem rw_bcQ_20 : rw_bcQ 20 = true := by decide +kernel
theorem rw_bcQ_21 : rw_bcQ 21 = true := by decide +kernel
theorem rw_bcQ_22 : rw_bcQ 22 = true := by decide +kernel
theorem rw_bcQ_23 : rw_bcQ 23 = true := by decide +kernel
theorem rw_bcQ_24 : rw_bcQ 24 = true := by decide +kernel
theorem rw_bcQ_25 : rw_bcQ 25 = true := by decide +kernel
theorem rw_bcQ_26 : rw_bcQ 26 = true := by decide +kernel
theorem rw_bcQ_27 : rw_bcQ 27 = true := by decide +kernel
theorem rw_bcQ_28 : rw_bcQ 28 = true := by decide +kernel
theorem rw_bcQ_29 : rw_bcQ 29 = true := by decide +kernel
theorem rw_bcQ_30 : rw_bcQ 30 = true := by decide +kernel
theorem rw_bcQ_31 : rw_bcQ 31 = true := by decide +kernel
theorem rw_bc0 {a : Nat} (h : a < 32) : rw_bcQ a = true := by
  by_cases c0 : a = 0
  · rw [c0]
    exact rw_bcQ_0
  by_cases c1 : a = 1
  · rw [c1]
    exact rw_bcQ_1
  by_cases c2 : a = 2
  · rw [c2]
    exact rw_bcQ_2
  by_cases c3 : a = 3
  · rw [c3]
    exact rw_bcQ_3
  by_cases c4 : a = 4
  · rw [c4]
    exact rw_bcQ_4
  by_cases c5 : a = 5
  · rw [c5]
    exact rw_bcQ_5
  by_cases c6 : a = 6
  · rw [c6]
    exact rw_bcQ_6
  by_cases c7 : a = 7
  · rw [c7]
    exact rw_bcQ_7
  by_cases c8 : a = 8
  · rw [c8]
    exact rw_bcQ_8
  by_cases c9 : a = 9
  · rw [c9]
    exact rw_bcQ_9
  by_cases c10 : a = 10
  · rw [c10]
    exact rw_bcQ_10
  by_cases c11 : a = 11
  · rw [c11]
    exact rw_bcQ_11
  by_cases c12 : a = 12
  · rw [c12]
    exact rw_bcQ_12
  by_cases c13 : a = 13
  · rw [c13]
    exact rw_bcQ_13
  by_cases c14 : a = 14
  · rw [c14]
    exact rw_bcQ_14
  by_cases c15 : a = 15
  · rw [c15]
    exact rw_bcQ_15
  by_cases c16 : a = 16
  · rw [c16]
    exact rw_bcQ_16
  by_cases c17 : a = 17
  · rw [c17]
    exact rw_bcQ_17
  by_cases c18 : a = 18
  · rw [c18]
    exact rw_bcQ_18
  by_cases c19 : a = 19
  · rw [c19]
    exact rw_bcQ_19
  by_cases c20 : a = 20
  · rw [c20]
    exact rw_bcQ_20
  by_cases c21 : a = 21
  · rw [c21]
    exact rw_bcQ_21
  by_cases c22 : a = 22
  · rw [c22]
    exact rw_bcQ_22
  by_cases c23 : a = 23
  · rw [c23]
    exact rw_bcQ_23
  by_cases c24 : a = 24
  · rw [c24]
    exact rw_bcQ_24
  by_cases c25 : a = 25
  · rw [c25]
    exact rw_bcQ_25
  by_cases c26 : a = 26
  · rw [c26]
    exact rw_bcQ_26
  by_cases c27 : a = 27
  · rw [c27]
    exact rw_bcQ_27
  by_cases c28 : a = 28
  · rw [c28]
    exact rw_bcQ_28
  by_cases c29 : a = 29
  · rw [c29]
    exact rw_bcQ_29
  by_cases c30 : a = 30
  · rw [c30]
    exact rw_bcQ_30
  rw [show a = 31 by omega]
  exact rw_bcQ_31
theorem rw_bc_cn {x : Int} (h : bs x) : xa_bc x = cn x := by
  have h0 := h.1
  have h1 := h.2
  have k1 := List.all_eq_true.mp (rw_bc0 (a := x.toNat / 512) (by omega)) (x.toNat % 512) (List.mem_range.mpr (by omega))
  rw [show 512 * (x.toNat / 512) + x.toNat % 512 = x.toNat by omega, decide_eq_true_eq, Int.toNat_of_nonneg h0] at k1
  rw [k1]
  have key : ∀ k : Nat, k ≤ 14 → ((rw_pc k x.toNat : Nat) : Int) = xk_n (fun w => 1 - bt x w) 0 k := by
    intro k
    induction k with
    | zero => exact fun _ => rfl
    | succ k ih =>
      intro hk
      have ih := ih (by omega)
      have b1 := bt_1 (b := x) (w := (k : Int)) (by omega) (by omega)
      rw [Int.toNat_natCast] at b1
      have b2 : (Int32.ofInt x).toBitVec.getLsbD k = x.toNat.testBit k := by
        show (Int32.ofInt x).toBitVec.toNat.testBit k = _
        rw [bn_of h]
      rw [b2] at b1
      have b3 := bt01 (a := x) (w := (k : Int)) (by omega) (by omega)
      show ((rw_pc k x.toNat + (if x.toNat.testBit k = true then 1 else 0) : Nat) : Int) = xk_n (fun w => 1 - bt x w) 0 k + (if 1 - bt x (k : Int) ≤ 0 then 1 else 0)
      by_cases c : x.toNat.testBit k = true
      · have := b1.mpr c
        rw [if_pos c, if_pos (by omega), ← ih]
        omega
      · have : ¬ bt x (k : Int) = 1 := fun e => c (b1.mp e)
        rw [if_neg c, if_neg (by omega), ← ih]
        omega
  exact key 14 (by omega)
theorem rw_pN {N : Int} (h : 0 ≤ N ∧ N ≤ 14) : xa_ib 6 1 N = ((2 ^ N.toNat : Nat) : Int) ∧ 1 ≤ xa_ib 6 1 N ∧ xa_ib 6 1 N ≤ 16384 := by
  have key : ((List.range 15).all fun N => decide (xa_ib 6 1 (N : Int) = ((2 ^ N : Nat) : Int)) && decide (1 ≤ xa_ib 6 1 (N : Int) ∧ xa_ib 6 1 (N : Int) ≤ 16384)) = true := by decide +kernel
  have k := List.all_eq_true.mp key N.toNat (List.mem_range.mpr (by omega))
  rw [Int.toNat_of_nonneg h.1, Bool.and_eq_true, decide_eq_true_eq, decide_eq_true_eq] at k
  exact k
theorem rw_pv {N v : Int} (h : N ≤ 14) (v0 : 0 ≤ v) (v1 : v < N) : 0 ≤ xa_ib 6 1 v ∧ xa_ib 6 1 v < xa_ib 6 1 N := by
  have key : ((List.range 15).all fun N => (List.range N).all fun v => decide (0 ≤ xa_ib 6 1 (v : Int) ∧ xa_ib 6 1 (v : Int) < xa_ib 6 1 (N : Int))) = true := by decide +kernel
  have k := List.all_eq_true.mp (List.all_eq_true.mp key N.toNat (List.mem_range.mpr (by omega))) v.toNat (List.mem_range.mpr (by omega))
  rw [Int.toNat_of_nonneg v0, Int.toNat_of_nonneg (by omega), decide_eq_true_eq] at k
  exact k
theorem rw_orN {x y N : Int} (h : 0 ≤ N ∧ N ≤ 14) (hx : 0 ≤ x ∧ x < xa_ib 6 1 N) (hy : 0 ≤ y ∧ y < xa_ib 6 1 N) : 0 ≤ xa_ib 4 x y ∧ xa_ib 4 x y < xa_ib 6 1 N := by
  obtain ⟨e, -, p⟩ := rw_pN h
  have bx : bs x := ⟨hx.1, by omega⟩
  have by' : bs y := ⟨hy.1, by omega⟩
  have hn : x.toNat ||| y.toNat < 2 ^ N.toNat := Nat.or_lt_two_pow (by omega) (by omega)
  have e2 : (Int32.ofInt x ||| Int32.ofInt y).toBitVec.toNat = x.toNat ||| y.toNat := by rw [Int32.toBitVec_or, BitVec.toNat_or, bn_of bx, bn_of by']
  have e3 : xa_ib 4 x y = ((x.toNat ||| y.toNat : Nat) : Int) := by
    show (Int32.ofInt x ||| Int32.ofInt y).toInt = _
    rw [← Int32.toInt_toBitVec, BitVec.toInt_eq_toNat_of_lt (by omega), e2]
  rw [e3]
  omega
theorem rw_xk1 {f g : Int → Int} {c v : Int} : ∀ k : Nat, (∀ w, 0 ≤ w → w < (k : Int) → ¬ w = v → f w ≤ c → g w ≤ c) → xk_n f c k ≤ xk_n g c k + 1
  | 0, _ => by
    show (0 : Int) ≤ 0 + 1
    decide
  | k + 1, h => by
    have h2 := h (k : Int) (by omega) (by omega)
    show xk_n f c k + (if f (k : Int) ≤ c then 1 else 0) ≤ xk_n g c k + (if g (k : Int) ≤ c then 1 else 0) + 1
    by_cases e : (k : Int) = v
    · have h1 := xk_mn (f := f) (g := g) (c := c) k (fun w w0 w1 => h w w0 (by omega) (by omega))
      split <;> split <;> omega
    · have h1 := rw_xk1 k (fun w w0 w1 => h w w0 (by omega))
      have h2 := h2 e
      split
      · rename_i e2
        rw [if_pos (h2 e2)]
        omega
      · split <;> omega
theorem rw_cn_or {x v : Int} (v0 : 0 ≤ v) (v1 : v < 14) : cn (xa_ib 4 x (xa_ib 6 1 v)) ≤ cn x + 1 := by
  show xk_n (fun w => 1 - bt (xa_ib 4 x (xa_ib 6 1 v)) w) 0 14 ≤ xk_n (fun w => 1 - bt x w) 0 14 + 1
  refine rw_xk1 (v := v) 14 (fun w w0 w1 hw e => ?_)
  have w2 : w < 31 := by omega
  have o := bt_or (a := x) (b := xa_ib 6 1 v) w0 w2
  rw [bt_sh v0 (by omega) w0 w2] at o
  have e' : 1 - bt (xa_ib 4 x (xa_ib 6 1 v)) w ≤ 0 := e
  have z := bt01 (a := xa_ib 4 x (xa_ib 6 1 v)) w0 w2
  have z2 := bt01 (a := x) w0 w2
  show 1 - bt x w ≤ 0
  rcases o.mp (by omega) with c | c
  · omega
  · exact absurd c.symm hw
theorem rw_cn0 : cn 0 ≤ 0 := by decide +kernel
/-- a set that holds all of the first n -/
theorem rw_wS {N : Int} {w : Int → Int} (h : 0 ≤ N ∧ N ≤ 14) : ∀ n : Nat, (∀ k : Int, 0 ≤ k → k < (n : Int) → 0 ≤ w k ∧ w k < N) → ∃ S, (0 ≤ S ∧ S < xa_ib 6 1 N) ∧ (∀ k : Int, 0 ≤ k → k < (n : Int) → bt S (w k) = 1) ∧ cn S ≤ (n : Int)
  | 0, _ => by
    have := (rw_pN h).2
    exact ⟨0, by omega, fun k k0 k1 => absurd k1 (by omega), rw_cn0⟩
  | n + 1, hw => by
    obtain ⟨S, h1, h2, h3⟩ := rw_wS h n (fun k k0 k1 => hw k k0 (by omega))
    have wn := hw (n : Int) (by omega) (by omega)
    refine ⟨xa_ib 4 S (xa_ib 6 1 (w (n : Int))), rw_orN h h1 (rw_pv h.2 wn.1 wn.2), fun k k0 k1 => ?_, ?_⟩
    · have wk := hw k k0 k1
      rw [bt_or wk.1 (by omega)]
      by_cases c : k = (n : Int)
      · rw [c]
        exact Or.inr ((bt_sh wn.1 (by omega) wn.1 (by omega)).mpr rfl)
      · exact Or.inl (h2 k k0 (by omega))
    · have := rw_cn_or (x := S) wn.1 (show w (n : Int) < 14 by omega)
      omega
/-- a set that holds one for each of n, no one for two, has n -/
theorem rw_inj {U : Int → Int → Prop} : ∀ (n : Nat) (S : Int), (∀ k : Int, 0 ≤ k → k < (n : Int) → ∃ v, (0 ≤ v ∧ v < 14) ∧ bt S v = 1 ∧ U k v) → (∀ j k : Int, 0 ≤ j → j < k → k < (n : Int) → ∀ v, ¬ (U j v ∧ U k v)) → (n : Int) ≤ cn S
  | 0, S, _, _ => (cn_le S).1
  | n + 1, S, h, hd => by
    obtain ⟨v, hv, hb, hU⟩ := h (n : Int) (by omega) (by omega)
    have key : ∀ w, 0 ≤ w → w < 14 → (bt (xa_ib 3 S (xa_ib 5 (xa_ib 6 1 v) (-1))) w = 1 ↔ bt S w = 1 ∧ ¬ v = w) := fun w w0 w1 => by rw [bt_and w0 (by omega), bt_xm w0 (by omega), bt_sh hv.1 (by omega) w0 (by omega)]
    have ih := rw_inj n (xa_ib 3 S (xa_ib 5 (xa_ib 6 1 v) (-1))) (fun k k0 k1 => by
      obtain ⟨u, hu, hb', hU'⟩ := h k k0 (by omega)
      refine ⟨u, hu, (key u hu.1 hu.2).mpr ⟨hb', fun e => ?_⟩, hU'⟩
      subst e
      exact hd k (n : Int) k0 k1 (by omega) v ⟨hU', hU⟩) (fun j k j0 jk k1 => hd j k j0 jk (by omega))
    have l := cn_lt (x := xa_ib 3 S (xa_ib 5 (xa_ib 6 1 v) (-1))) (y := S) (v := v) (fun w w0 w1 e => ((key w w0 w1).mp e).1) hv.1 hv.2 hb (fun e => ((key v hv.1 hv.2).mp e).2 rfl)
    omega
theorem rw_mbc {G : Int → Int → Prop} {N L x n : Int} (hN : 0 ≤ N ∧ N ≤ 14) (h : rw_mb G N L (xa_ib 6 1 N) x) (h' : rw_mc G N L n) : n = x := by
  obtain ⟨h1, S1, s1, s2, s3⟩ := h'
  have hp := (rw_pN hN).2
  rcases h with ⟨-, g⟩ | ⟨S, s, c, e, m⟩
  · exact absurd s2 (g S1 s1.1 s1.2)
  · have a := h1 S c
    have b := m S1 s1.1 s1.2 s2
    obtain ⟨e, -⟩ := e
    rw [rw_bc_cn ⟨s.1, by omega⟩] at e
    rw [rw_bc_cn ⟨s1.1, by omega⟩] at b
    omega
theorem rw_mb_e {G G' : Int → Int → Prop} {N L n : Int} (e : ∀ i v, 0 ≤ i → i < L → 0 ≤ v → v < N → (G i v ↔ G' i v)) (h : rw_mc G N L n) : rw_mc G' N L n := by
  obtain ⟨h1, S, s1, s2, s3⟩ := h
  exact ⟨fun S hS => h1 S ((rw_cov_e e).mpr hS), S, s1, (rw_cov_e e).mp s2, s3⟩
theorem rw_mb0 {G : Int → Int → Prop} {N L : Int} : rw_mb G N L 0 (-1) := Or.inl ⟨rfl, fun S s0 s1 => absurd s1 (by omega)⟩
theorem rw_mb_n {G : Int → Int → Prop} {N L n x : Int} (hn : ¬ rw_cov G N L n) (h : rw_mb G N L n x) : rw_mb G N L (n + 1) x := by
  rcases h with ⟨e, g⟩ | ⟨S, s, c, e, m⟩
  · refine Or.inl ⟨e, fun S s0 s1 => ?_⟩
    by_cases c : S = n
    · rw [c]
      exact hn
    · exact g S s0 (by omega)
  · refine Or.inr ⟨S, by omega, c, e, fun S' s0 s1 hc => ?_⟩
    by_cases c' : S' = n
    · rw [c'] at hc
      exact absurd hc hn
    · exact m S' s0 (by omega) hc
theorem rw_mb_y {G : Int → Int → Prop} {N L n x : Int} (n0 : bs n) (hn : rw_cov G N L n) (hx : x = -1 ∨ xa_bc n < x) (h : rw_mb G N L n x) : rw_mb G N L (n + 1) (xa_bc n) := by
  refine Or.inr ⟨n, ⟨n0.1, by omega⟩, hn, ⟨rfl, by rw [rw_bc_cn n0]; exact (cn_le n).1⟩, fun S' s0 s1 hc => ?_⟩
  by_cases c' : S' = n
  · rw [c']
    exact Int.le_refl _
  · rcases h with ⟨-, g⟩ | ⟨S, s, c, e, m⟩
    · exact absurd hc (g S' s0 (by omega))
    · have := m S' s0 (by omega) hc
      omega
theorem rw_mb_k {G : Int → Int → Prop} {N L n x : Int} (hx : ¬ x = -1) (hl : x ≤ xa_bc n) (h : rw_mb G N L n x) : rw_mb G N L (n + 1) x := by
  rcases h with ⟨e, -⟩ | ⟨S, s, c, e, m⟩
  · exact absurd e hx
  · refine Or.inr ⟨S, by omega, c, e, fun S' s0 s1 hc => ?_⟩
    by_cases c' : S' = n
    · rw [c']
      exact hl
    · exact m S' s0 (by omega) hc
/-- the class: n picked so far, op still open -/
def rw_gd (ax lv lo hi wa wl wt : Int → Int) (N L n op : Int) : Prop := (bs op ∧ ∀ i, 0 ≤ i → i < 14 → bt op i = 1 → i < L) ∧ (0 ≤ n ∧ xk_n (fun i => 1 - bt op i) 0 L.toNat + n ≤ L) ∧ ∃ t w : Int → Int, (∀ k, 0 ≤ k → k < n → ((0 ≤ t k ∧ t k < L) ∧ (0 ≤ w k ∧ w k < N)) ∧ br_is ax lv lo hi wa wl wt (t k) (w k) ∧ (∀ v, 0 ≤ v → v < N → br_is ax lv lo hi wa wl wt (t k) v → wt v ≤ wt (w k)) ∧ ∀ i, 0 ≤ i → i < L → bt op i = 1 → hi (t k) ≤ hi i) ∧ (∀ i, 0 ≤ i → i < L → (bt op i = 1 ↔ ∀ k, 0 ≤ k → k < n → ¬ br_is ax lv lo hi wa wl wt i (w k))) ∧ ∀ j k, 0 ≤ j → j < k → k < n → ∀ v, 0 ≤ v → v < N → ¬ (br_is ax lv lo hi wa wl wt (t j) v ∧ br_is ax lv lo hi wa wl wt (t k) v)
theorem rw_gd0 {ax lv lo hi wa wl wt : Int → Int} {N L : Int} (hL : 0 ≤ L ∧ L ≤ 12) : rw_gd ax lv lo hi wa wl wt N L 0 (xa_w32 (xa_ib 6 1 L - 1)) := by
  have hb : ∀ i, 0 ≤ i → i < 14 → (bt (xa_w32 (xa_ib 6 1 L - 1)) i = 1 ↔ i < L) := fun i i0 i1 => bt_all hL.1 (by omega) i0 (by omega)
  have x := xk_b (f := fun i => 1 - bt (xa_w32 (xa_ib 6 1 L - 1)) i) (c := 0) L.toNat
  refine ⟨⟨bs_all hL.1 (by omega), fun i i0 i1 e => (hb i i0 i1).mp e⟩, ⟨Int.le_refl 0, by omega⟩, fun _ => 0, fun _ => 0, fun k k0 k1 => absurd k1 (by omega), fun i i0 i1 => ⟨fun _ k k0 k1 => absurd k1 (by omega), fun _ => (hb i i0 (by omega)).mpr i1⟩, fun j k j0 jk k1 => absurd k1 (by omega)⟩
theorem rw_gd12 {ax lv lo hi wa wl wt : Int → Int} {N L n op : Int} (hL : 0 ≤ L ∧ L ≤ 12) (hn : 12 ≤ n) (h : rw_gd ax lv lo hi wa wl wt N L n op) : ∀ i, 0 ≤ i → i < L → ¬ bt op i = 1 := fun i i0 i1 e => by
  have h2 := h.2.1.2
  have l := xk_lt (f := fun _ => 1) (g := fun i => 1 - bt op i) (c := 0) L.toNat i (fun w _ _ e => absurd e (by decide)) i0 (by omega) (show 1 - bt op i ≤ 0 by omega) (by decide)
  have b := xk_b (f := fun _ => (1 : Int)) (c := 0) L.toNat
  omega
theorem rw_gd1 {ax lv lo hi wa wl wt : Int → Int} {N L n op op' t0 w0 : Int} (hL : 0 ≤ L ∧ L ≤ 12) (h : rw_gd ax lv lo hi wa wl wt N L n op) (h1 : 0 ≤ t0 ∧ t0 < L) (h2 : bt op t0 = 1) (h3 : ∀ i, 0 ≤ i → i < L → bt op i = 1 → hi t0 ≤ hi i) (h4 : 0 ≤ w0 ∧ w0 < N) (h5 : br_is ax lv lo hi wa wl wt t0 w0) (h6 : ∀ v, 0 ≤ v → v < N → br_is ax lv lo hi wa wl wt t0 v → wt v ≤ wt w0) (h7 : bs op' ∧ ∀ i, 0 ≤ i → i < 14 → bt op' i = 1 → bt op i = 1) (h8 : ∀ i, 0 ≤ i → i < L → (bt op' i = 1 ↔ bt op i = 1 ∧ ¬ br_is ax lv lo hi wa wl wt i w0)) : rw_gd ax lv lo hi wa wl wt N L (n + 1) op' := by
  obtain ⟨⟨a1, a2⟩, ⟨b1, b2⟩, t, w, c1, c2, c3⟩ := h
  have et : ∀ k, k < n → (if k = n then t0 else t k) = t k := fun k hk => if_neg (by omega)
  have ew : ∀ k, k < n → (if k = n then w0 else w k) = w k := fun k hk => if_neg (by omega)
  have en : (if n = n then t0 else t n) = t0 := if_pos rfl
  have en' : (if n = n then w0 else w n) = w0 := if_pos rfl
  refine ⟨⟨h7.1, fun i i0 i1 e => a2 i i0 i1 (h7.2 i i0 i1 e)⟩, ⟨by omega, ?_⟩, fun k => if k = n then t0 else t k, fun k => if k = n then w0 else w k, fun k k0 k1 => ?_, fun i i0 i1 => ?_, fun j k j0 jk k1 v v0 v1 => ?_⟩
  · have l := xk_lt (f := fun i => 1 - bt op' i) (g := fun i => 1 - bt op i) (c := 0) L.toNat t0 (fun i i0 i1 e => by
      have e' : 1 - bt op' i ≤ 0 := e
      have z := bt01 (a := op') i0 (show i < 31 by omega)
      have z2 := ((h8 i i0 (by omega)).mp (by omega)).1
      show 1 - bt op i ≤ 0
      omega) h1.1 (by omega) (show 1 - bt op t0 ≤ 0 by omega) (fun e => by
      have e' : 1 - bt op' t0 ≤ 0 := e
      have z := bt01 (a := op') h1.1 (show t0 < 31 by omega)
      exact ((h8 t0 h1.1 h1.2).mp (by omega)).2 h5)
    omega
  · dsimp only
    by_cases c : k = n
    · subst c
      rw [en, en']
      exact ⟨⟨h1, h4⟩, h5, h6, fun i i0 i1 e => h3 i i0 i1 ((h8 i i0 i1).mp e).1⟩
    · rw [et k (by omega), ew k (by omega)]
      obtain ⟨d1, d2, d3, d4⟩ := c1 k k0 (by omega)
      exact ⟨d1, d2, d3, fun i i0 i1 e => d4 i i0 i1 ((h8 i i0 i1).mp e).1⟩
  · dsimp only
    rw [h8 i i0 i1, c2 i i0 i1]
    constructor
    · intro g k k0 k1
      by_cases c : k = n
      · rw [c, en']
        exact g.2
      · rw [ew k (by omega)]
        exact g.1 k k0 (by omega)
    · intro g
      refine ⟨fun k k0 k1 => ?_, ?_⟩
      · have q := g k k0 (by omega)
        rw [ew k k1] at q
        exact q
      · have q := g n b1 (by omega)
        rw [en'] at q
        exact q
  · dsimp only
    by_cases c : k = n
    · subst c
      rw [en, et j jk]
      intro g
      obtain ⟨d1, d2, d3, d4⟩ := c1 j j0 jk
      have p1 := d3 v v0 v1 g.1
      have p2 := d4 t0 h1.1 h1.2 h2
      refine (c2 t0 h1.1 h1.2).mp h2 j j0 jk ?_
      obtain ⟨q1, q2, q3, q4⟩ := d2
      obtain ⟨r1, r2, r3, r4⟩ := g.1
      obtain ⟨s1, s2, s3, s4⟩ := g.2
      exact ⟨by omega, by omega, by omega, by omega⟩
    · rw [et j (by omega), et k (by omega)]
      exact c3 j k j0 jk (by omega) v v0 v1
theorem rw_gd_e {ax lv lo hi wa wl wt : Int → Int} {N L n op : Int} (hN : 0 ≤ N ∧ N ≤ 14) (h : rw_gd ax lv lo hi wa wl wt N L n op) (ho : ∀ i, 0 ≤ i → i < L → ¬ bt op i = 1) : rw_mc (br_is ax lv lo hi wa wl wt) N L n := by
  obtain ⟨-, ⟨b1, -⟩, t, w, c1, c2, c3⟩ := h
  have e : ((n.toNat : Nat) : Int) = n := Int.toNat_of_nonneg b1
  constructor
  · intro S hS
    have q := rw_inj (U := fun k v => 0 ≤ v ∧ v < N ∧ br_is ax lv lo hi wa wl wt (t k) v) n.toNat S (fun k k0 k1 => by
      obtain ⟨d1, -, -, -⟩ := c1 k k0 (by omega)
      obtain ⟨v, hv, hb, hg⟩ := hS (t k) d1.1.1 d1.1.2
      exact ⟨v, by omega, hb, hv.1, hv.2, hg⟩) (fun j k j0 jk k1 v g => c3 j k j0 jk (by omega) v g.1.1 g.1.2.1 ⟨g.1.2.2, g.2.2.2⟩)
    omega
  · obtain ⟨S, s1, s2, s3⟩ := rw_wS (w := w) hN n.toNat (fun k k0 k1 => (c1 k k0 (by omega)).1.2)
    refine ⟨S, s1, fun i i0 i1 => ?_, by omega⟩
    have q : ¬ ∀ k, 0 ≤ k → k < n → ¬ br_is ax lv lo hi wa wl wt i (w k) := fun g => ho i i0 i1 ((c2 i i0 i1).mpr g)
    refine Classical.byContradiction (fun c => q (fun k k0 k1 g => c ?_))
    exact ⟨w k, (c1 k k0 k1).1.2, s2 k k0 (by omega), g⟩
/-- what of op is left when those below i that w fits are gone -/
def rw_oi (G : Int → Int → Prop) (L w o0 i op : Int) : Prop := (bs op ∧ ∀ j, 0 ≤ j → j < 14 → bt op j = 1 → bt o0 j = 1) ∧ ∀ j, 0 ≤ j → j < L → (bt op j = 1 ↔ bt o0 j = 1 ∧ (j < i → ¬ G j w))
theorem rw_oi0 {G : Int → Int → Prop} {L w op : Int} (hb : bs op) : rw_oi G L w op 0 op := ⟨⟨hb, fun _ _ _ h => h⟩, fun j j0 j1 => ⟨fun h => ⟨h, fun c => absurd c (by omega)⟩, fun h => h.1⟩⟩
theorem rw_oi_e {G : Int → Int → Prop} {L w o0 i op : Int} (e : i = L) (h : rw_oi G L w o0 i op) : rw_oi G L w o0 L op := by
  rw [e] at h
  exact h
theorem rw_oi1 {G : Int → Int → Prop} {L w o0 i op : Int} (hL : L ≤ 12) (i0 : 0 ≤ i) (i1 : i < L) (g : G i w) (h : rw_oi G L w o0 i op) : rw_oi G L w o0 (i + 1) (xa_ib 3 op (xa_ib 5 (xa_ib 6 1 i) (-1))) := by
  have key : ∀ j, 0 ≤ j → j < 14 → (bt (xa_ib 3 op (xa_ib 5 (xa_ib 6 1 i) (-1))) j = 1 ↔ bt op j = 1 ∧ ¬ i = j) := fun j j0 j1 => by rw [bt_and j0 (by omega), bt_xm j0 (by omega), bt_sh i0 (by omega) j0 (by omega)]
  refine ⟨⟨bs_and h.1.1, fun j j0 j1 e => h.1.2 j j0 j1 ((key j j0 j1).mp e).1⟩, fun j j0 j1 => ?_⟩
  rw [key j j0 (by omega), h.2 j j0 j1]
  constructor
  · intro ⟨⟨a, b⟩, c⟩
    exact ⟨a, fun d => b (by omega)⟩
  · intro ⟨a, b⟩
    exact ⟨⟨a, fun d => b (by omega)⟩, fun e => b (by omega) (by rw [← e]; exact g)⟩
theorem rw_oi2 {G : Int → Int → Prop} {L w o0 i op : Int} (hL : L ≤ 12) (g : ¬ G i w) (h : rw_oi G L w o0 i op) : rw_oi G L w o0 (i + 1) (xa_ib 3 op (-1)) := by
  have m1 : ((List.range 31).all fun n => decide (bt (-1) (n : Int) = 1)) = true := by decide +kernel
  have key : ∀ j, 0 ≤ j → j < 14 → (bt (xa_ib 3 op (-1)) j = 1 ↔ bt op j = 1) := fun j j0 j1 => by
    have k := List.all_eq_true.mp m1 j.toNat (List.mem_range.mpr (by omega))
    rw [Int.toNat_of_nonneg j0, decide_eq_true_eq] at k
    rw [bt_and j0 (by omega)]
    exact ⟨fun x => x.1, fun x => ⟨x, k⟩⟩
  refine ⟨⟨bs_and h.1.1, fun j j0 j1 e => h.1.2 j j0 j1 ((key j j0 j1).mp e)⟩, fun j j0 j1 => ?_⟩
  rw [key j j0 (by omega), h.2 j j0 j1]
  constructor
  · intro ⟨a, b⟩
    refine ⟨a, fun d => ?_⟩
    by_cases c : j = i
    · rw [c]
      exact g
    · exact b (by omega)
  · intro ⟨a, b⟩
    exact ⟨a, fun d => b (by omega)⟩
/-- an open one that is the tightest, its greatest wheel -/
theorem rw_pick {ax lv lo hi wa wl wt : Int → Int} {N L n op t0 : Int} (hL : 0 ≤ L ∧ L ≤ 12) (h : rw_gd ax lv lo hi wa wl wt N L n op) (ho : ¬ op = 0) (ht : gg_P (fun i => bt op i = 1) (fun i => - hi i) L t0) : (0 ≤ t0 ∧ t0 < L) ∧ bt op t0 = 1 ∧ ∀ i, 0 ≤ i → i < L → bt op i = 1 → hi t0 ≤ hi i := by
  rcases ht with ⟨-, g⟩ | ⟨a, b, c, d⟩
  · exfalso
    exact ho (bs_z h.1.1 (fun w w0 w1 e => g w w0 (h.1.2 w w0 w1 e) e))
  · exact ⟨⟨a, b⟩, c, fun i i0 i1 e => by
      have q : - hi i ≤ - hi t0 := d i i0 i1 e
      omega⟩
theorem rw_pickw {G : Int → Prop} {wt : Int → Int} {N w0 : Int} (hF : ∃ w, 0 ≤ w ∧ w < N ∧ G w) (h : gg_P G wt N w0) : (0 ≤ w0 ∧ w0 < N) ∧ G w0 ∧ ∀ v, 0 ≤ v → v < N → G v → wt v ≤ wt w0 := by
  rcases h with ⟨-, g⟩ | ⟨a, b, c, d⟩
  · obtain ⟨w, h0, h1, h2⟩ := hF
    exact absurd h2 (g w h0 h1)
  · exact ⟨⟨a, b⟩, c, d⟩
theorem rw_bb {P : Int → Prop} : ∀ n : Nat, n ≤ 14 → ∀ k : Int, 0 ≤ k → k < 14 → (bt (br_b P n) k = 1 ↔ k < (n : Int) ∧ P k)
  | 0, _, k, k0, k1 => ⟨fun h => absurd h (bt_0 k0 (by omega)), fun h => by
    exfalso
    omega⟩
  | n + 1, hn, k, k0, k1 => by
    have ih := rw_bb (P := P) n (by omega) k k0 k1
    by_cases c : P (n : Int)
    · rw [br_b1 c, bt_or k0 (by omega), ih, bt_sh (by omega) (by omega) k0 (by omega)]
      constructor
      · rintro (h | h)
        · exact ⟨by omega, h.2⟩
        · exact ⟨by omega, by rw [← h]; exact c⟩
      · intro h
        by_cases e : (n : Int) = k
        · exact Or.inr e
        · exact Or.inl ⟨by omega, h.2⟩
    · rw [br_b0 c, ih]
      constructor
      · intro h
        exact ⟨by omega, h.2⟩
      · intro h
        refine ⟨?_, h.2⟩
        by_cases e : k = (n : Int)
        · rw [e] at h
          exact absurd h.2 c
        · omega
theorem rw_bb0 {P : Int → Prop} {n : Nat} (hn : n ≤ 14) (h : br_b P n = 0) : ∀ k : Int, 0 ≤ k → k < (n : Int) → ¬ P k := fun k k0 k1 hP => by
  have q := (rw_bb n hn k k0 (by omega)).mpr ⟨k1, hP⟩
  rw [h] at q
  exact bt_0 k0 (by omega) q
theorem rw_no0 {ax lv lo hi wa wl wt : Int → Int} {N : Int} {n : Nat} (hn : n ≤ 14) (h : br_b (br_no ax lv lo hi wa wl wt N) n = 0) : ∀ i : Int, 0 ≤ i → i < (n : Int) → ∃ w, 0 ≤ w ∧ w < N ∧ br_is ax lv lo hi wa wl wt i w := fun i i0 i1 => by
  refine Classical.byContradiction (fun c => rw_bb0 hn h i i0 i1 (fun w w0 w1 g => c ⟨w, w0, w1, g⟩))
/-- the row's number: none, or the fewest wheels -/
def rw_s194 (G : Int → Int → Prop) (N L r : Int) (V : Int → Int) : Prop := (¬ r = 0 → V 0 = -1) ∧ (r = 0 → rw_mc G N L (V 0))
def rw_m194s (G : Int → Int → Prop) (N L r : Int) (V : Int → Int) : Prop := (¬ r = 0 → V 0 = -1) ∧ (r = 0 → rw_mb G N L (xa_ib 6 1 N) (V 0))
theorem rw_s194u {G G' : Int → Int → Prop} {N L r : Int} {V V' : Int → Int} (hN : 0 ≤ N ∧ N ≤ 14) (e : ∀ i v, 0 ≤ i → i < L → 0 ≤ v → v < N → (G i v ↔ G' i v)) (h : rw_s194 G N L r V) (h' : rw_m194s G' N L r V') : V 0 = V' 0 := by
  by_cases c : r = 0
  · exact rw_mbc hN (h'.2 c) (rw_mb_e e (h.2 c))
  · rw [h.1 c, h'.1 c]
theorem rw_199 {b : Bool} {A : Nat → Nat} {h0 : g_H} {d : Nat} {M : xa_M} {post : Option xa_V → xa_M → Prop} {l1 u1 : Int} {x : Int} (hl : 0 ≤ M 43 4 ∧ M 43 4 ≤ 12) (k : ∀ r : Int, -1 ≤ r ∧ r ≤ 11 → gg_P (fun i => bt x i = 1) (fun i => - M 47 i) (M 43 4) r → post (some (0, 0, (-1), 11, r)) M) : xa_C (xl_I b) A h0 (d + 2) 199 [(2, 43, 0, 0, 0), (0, 0, l1, u1, x)] M post := by
  refine xa_C_arg [(2, 43, 0, 0, 0), (0, 0, (-2147483648), 2147483647, x)] (xa_svR (xa_svI (fun _ _ _ _ => by omega) (xa_sv0))) ?_
  refine xa_meth (Q0 := (5, 1, false, 0, 0, 5)) (by decide +kernel) ⟨rfl, rfl⟩ (full := s_c_199) rfl rfl ?_
  intro hM hv Q hgo
  have loop : ∀ (n : Nat) (i bs : Int), 0 ≤ i ∧ i ≤ M 43 4 → -1 ≤ bs ∧ bs ≤ 11 → gg_P (fun i => bt x i = 1) (fun i => - M 47 i) i bs → 12 - i < (n : Int) → Q 4 [(3, (0, 0, 0, 12, i)), (2, (0, 0, (-1), 11, bs)), (0, (2, 43, 0, 0, 0)), (1, (0, 0, (-2147483648), 2147483647, x))] [] M := by
    intro n
    induction n with
    | zero => intro i bs i1 b1 hg hms; omega
    | succ n ih =>
      intro i bs i1 b1 hg hms
      refine hgo.1 38 [4] 4 _ _ _ ?_
      refine And.intro ?_ ?_
      · intro (c1 : (M 43 4) ≤ i)
        show post (some (0, 0, (-1), 11, bs)) M
        exact k _ b1 (by rw [show M 43 4 = i by omega]; exact hg)
      · intro (c1 : i < (M 43 4))
        refine And.intro ?_ ?_
        · intro (c2 : bs = (-1))
          refine And.intro ?_ ?_
          · intro (c3 : ¬ (xa_ib 3 (xa_ib 7 x i) 1) = 1)
            show Q 4 [(3, (0, 0, 1, 13, i + 1)), (2, (0, 0, (-1), 11, bs)), (4, (0, 0, 1, 1, 1)), (0, (2, 43, 0, 0, 0)), (1, (0, 0, (-2147483648), 2147483647, x))] [] M
            refine hgo.2.1 4 _ [(3, (0, 0, 0, 12, i + 1)), (2, (0, 0, (-1), 11, bs)), (0, (2, 43, 0, 0, 0)), (1, (0, 0, (-2147483648), 2147483647, x))] _ _ (xa_subI rfl rfl (fun _ _ _ _ => by omega) (xa_subI rfl rfl (fun _ _ _ _ => by omega) (xa_subR rfl (xa_subI rfl rfl (fun _ _ _ _ => by omega) (xa_sub0))))) ?_
            exact ih (i + 1) bs (by omega) (by omega) (gg_no c3 hg) (by omega)
          · intro (c3 : (xa_ib 3 (xa_ib 7 x i) 1) = 1)
            show Q 4 [(3, (0, 0, 1, 13, i + 1)), (2, (0, 0, 0, 12, i)), (4, (0, 0, 1, 1, 1)), (0, (2, 43, 0, 0, 0)), (1, (0, 0, (-2147483648), 2147483647, x))] [] M
            refine hgo.2.1 4 _ [(3, (0, 0, 0, 12, i + 1)), (2, (0, 0, (-1), 11, i)), (0, (2, 43, 0, 0, 0)), (1, (0, 0, (-2147483648), 2147483647, x))] _ _ (xa_subI rfl rfl (fun _ _ _ _ => by omega) (xa_subI rfl rfl (fun _ _ _ _ => by omega) (xa_subR rfl (xa_subI rfl rfl (fun _ _ _ _ => by omega) (xa_sub0))))) ?_
            exact ih (i + 1) i (by omega) (by omega) (gg_yes (by omega) c3 (Or.inl c2) hg) (by omega)
        · intro (c2 : ¬ bs = (-1))
          show xa_C (xl_I b) A h0 _ 23 [(2, 47, 0, 0, 0), (0, 0, 0, 12, i)] M _
          refine cx_23_47 (show 0 ≤ i ∧ i < 12 by omega) ?_
          show xa_C (xl_I b) A h0 _ 23 [(2, 47, 0, 0, 0), (0, 0, (-1), 11, bs)] M _
          refine cx_23_47 (show 0 ≤ bs ∧ bs < 12 by omega) ?_
          refine And.intro ?_ ?_
          · intro (c4 : (M 47 bs) ≤ (M 47 i))
            refine And.intro ?_ ?_
            · intro (c5 : ¬ (xa_ib 3 (xa_ib 7 x i) 1) = 1)
              show Q 4 [(3, (0, 0, 1, 13, i + 1)), (2, (0, 0, (-1), 11, bs)), (4, (0, 0, 0, 0, 0)), (0, (2, 43, 0, 0, 0)), (1, (0, 0, (-2147483648), 2147483647, x))] [] M
              refine hgo.2.1 4 _ [(3, (0, 0, 0, 12, i + 1)), (2, (0, 0, (-1), 11, bs)), (0, (2, 43, 0, 0, 0)), (1, (0, 0, (-2147483648), 2147483647, x))] _ _ (xa_subI rfl rfl (fun _ _ _ _ => by omega) (xa_subI rfl rfl (fun _ _ _ _ => by omega) (xa_subR rfl (xa_subI rfl rfl (fun _ _ _ _ => by omega) (xa_sub0))))) ?_
              exact ih (i + 1) bs (by omega) (by omega) (gg_no c5 hg) (by omega)
            · intro (c5 : (xa_ib 3 (xa_ib 7 x i) 1) = 1)
              show Q 4 [(3, (0, 0, 1, 13, i + 1)), (2, (0, 0, (-1), 11, bs)), (4, (0, 0, 0, 0, 0)), (0, (2, 43, 0, 0, 0)), (1, (0, 0, (-2147483648), 2147483647, x))] [] M
              refine hgo.2.1 4 _ [(3, (0, 0, 0, 12, i + 1)), (2, (0, 0, (-1), 11, bs)), (0, (2, 43, 0, 0, 0)), (1, (0, 0, (-2147483648), 2147483647, x))] _ _ (xa_subI rfl rfl (fun _ _ _ _ => by omega) (xa_subI rfl rfl (fun _ _ _ _ => by omega) (xa_subR rfl (xa_subI rfl rfl (fun _ _ _ _ => by omega) (xa_sub0))))) ?_
              exact ih (i + 1) bs (by omega) (by omega) (gg_eq c2 (show - M 47 i ≤ - M 47 bs by omega) hg) (by omega)
          · intro (c4 : (M 47 i) < (M 47 bs))
            refine And.intro ?_ ?_
            · intro (c6 : ¬ (xa_ib 3 (xa_ib 7 x i) 1) = 1)
              show Q 4 [(3, (0, 0, 1, 13, i + 1)), (2, (0, 0, (-1), 11, bs)), (4, (0, 0, 1, 1, 1)), (0, (2, 43, 0, 0, 0)), (1, (0, 0, (-2147483648), 2147483647, x))] [] M
              refine hgo.2.1 4 _ [(3, (0, 0, 0, 12, i + 1)), (2, (0, 0, (-1), 11, bs)), (0, (2, 43, 0, 0, 0)), (1, (0, 0, (-2147483648), 2147483647, x))] _ _ (xa_subI rfl rfl (fun _ _ _ _ => by omega) (xa_subI rfl rfl (fun _ _ _ _ => by omega) (xa_subR rfl (xa_subI rfl rfl (fun _ _ _ _ => by omega) (xa_sub0))))) ?_
              exact ih (i + 1) bs (by omega) (by omega) (gg_no c6 hg) (by omega)
            · intro (c6 : (xa_ib 3 (xa_ib 7 x i) 1) = 1)
              show Q 4 [(3, (0, 0, 1, 13, i + 1)), (2, (0, 0, 0, 12, i)), (4, (0, 0, 1, 1, 1)), (0, (2, 43, 0, 0, 0)), (1, (0, 0, (-2147483648), 2147483647, x))] [] M
              refine hgo.2.1 4 _ [(3, (0, 0, 0, 12, i + 1)), (2, (0, 0, (-1), 11, i)), (0, (2, 43, 0, 0, 0)), (1, (0, 0, (-2147483648), 2147483647, x))] _ _ (xa_subI rfl rfl (fun _ _ _ _ => by omega) (xa_subI rfl rfl (fun _ _ _ _ => by omega) (xa_subR rfl (xa_subI rfl rfl (fun _ _ _ _ => by omega) (xa_sub0))))) ?_
              exact ih (i + 1) i (by omega) (by omega) (gg_yes (by omega) c6 (Or.inr (show - M 47 bs < - M 47 i by omega)) hg) (by omega)
  refine hgo.1 9 [4] 0 _ _ _ ?_
  show Q 4 [(3, (0, 0, 0, 0, 0)), (2, (0, 0, (-1), (-1), (-1))), (0, (2, 43, 0, 0, 0)), (1, (0, 0, (-2147483648), 2147483647, x))] [] M
  refine hgo.2.1 4 _ [(3, (0, 0, 0, 12, 0)), (2, (0, 0, (-1), 11, (-1))), (0, (2, 43, 0, 0, 0)), (1, (0, 0, (-2147483648), 2147483647, x))] _ _ (xa_subI rfl rfl (fun _ _ _ _ => by omega) (xa_subI rfl rfl (fun _ _ _ _ => by omega) (xa_subR rfl (xa_subI rfl rfl (fun _ _ _ _ => by omega) (xa_sub0))))) ?_
  exact loop 13 0 (-1) (by omega) (by omega) gg_0 (by omega)
theorem rw_198 {b : Bool} {A : Nat → Nat} {h0 : g_H} {d : Nat} {M : xa_M} {post : Option xa_V → xa_M → Prop} (hn : 0 ≤ M 1 9 ∧ M 1 9 ≤ 14) (hl : 0 ≤ M 43 4 ∧ M 43 4 ≤ 12) (hF : ∀ i, 0 ≤ i → i < M 43 4 → ∃ w, 0 ≤ w ∧ w < M 1 9 ∧ br_is (M 44) (M 45) (M 46) (M 47) (M 5) (M 6) (M 4) i w) (k : ∀ r : Int, 0 ≤ r ∧ r ≤ 12 → rw_mc (br_is (M 44) (M 45) (M 46) (M 47) (M 5) (M 6) (M 4)) (M 1 9) (M 43 4) r → post (some (0, 0, 0, 12, r)) M) : xa_C (xl_I b) A h0 (d + 5) 198 [(2, 43, 0, 0, 0), (2, 1, 0, 0, 0)] M post := by
  refine xa_C_arg [(2, 43, 0, 0, 0), (2, 1, 0, 0, 0)] (xa_svR (xa_svR (xa_sv0))) ?_
  refine xa_meth (Q0 := (7, 1, false, 0, 0, 5)) (by decide +kernel) ⟨rfl, rfl⟩ (full := s_c_198) rfl rfl ?_
  intro hM hv Q hgo
  have inner : ∀ (o0 w kk nn : Int), 0 ≤ w ∧ w ≤ 13 → 0 ≤ kk ∧ kk ≤ 11 → 0 ≤ nn ∧ nn ≤ 11 → (∀ op : Int, rw_oi (br_is (M 44) (M 45) (M 46) (M 47) (M 5) (M 6) (M 4)) (M 43 4) w o0 (M 43 4) op → Q 14 [(4, (0, 0, 0, 12, kk + 1)), (3, (0, 0, 0, 12, nn + 1)), (2, (0, 0, (-2147483648), 2147483647, op)), (0, (2, 43, 0, 0, 0)), (1, (2, 1, 0, 0, 0))] [] M) → ∀ (n : Nat) (i op : Int), 0 ≤ i ∧ i ≤ M 43 4 → rw_oi (br_is (M 44) (M 45) (M 46) (M 47) (M 5) (M 6) (M 4)) (M 43 4) w o0 i op → 12 - i < (n : Int) → Q 40 [(6, (0, 0, 0, 12, i)), (5, (0, 0, (-1), 13, w)), (4, (0, 0, 0, 11, kk)), (3, (0, 0, 0, 11, nn)), (2, (0, 0, (-2147483648), 2147483647, op)), (0, (2, 43, 0, 0, 0)), (1, (2, 1, 0, 0, 0))] [] M := by
    intro o0 w kk nn hw hk hn2 kx n
    induction n with
    | zero => intro i op i1 ho hms; omega
    | succ n ih2 =>
      intro i op i1 ho hms
      refine hgo.1 26 [14, 40] 40 _ _ _ ?_
      refine And.intro ?_ ?_
      · intro (c1 : (M 43 4) ≤ i)
        show Q 14 [(4, (0, 0, 1, 12, kk + 1)), (3, (0, 0, 1, 12, nn + 1)), (6, (0, 0, 0, 12, i)), (5, (0, 0, (-1), 13, w)), (2, (0, 0, (-2147483648), 2147483647, op)), (0, (2, 43, 0, 0, 0)), (1, (2, 1, 0, 0, 0))] [] M
        refine hgo.2.1 14 _ [(4, (0, 0, 0, 12, kk + 1)), (3, (0, 0, 0, 12, nn + 1)), (2, (0, 0, (-2147483648), 2147483647, op)), (0, (2, 43, 0, 0, 0)), (1, (2, 1, 0, 0, 0))] _ _ (xa_subI rfl rfl (fun _ _ _ _ => by omega) (xa_subI rfl rfl (fun _ _ _ _ => by omega) (xa_subI rfl rfl (fun _ _ _ _ => by omega) (xa_subR rfl (xa_subR rfl (xa_sub0)))))) ?_
        exact kx op (rw_oi_e (by omega) ho)
      · intro (c1 : i < (M 43 4))
        show xa_C (xl_I b) A h0 _ 197 [(2, 43, 0, 0, 0), (2, 1, 0, 0, 0), (0, 0, 0, 12, i), (0, 0, (-1), 13, w)] M _
        refine cx_197f (show 0 ≤ i ∧ i ≤ 11 by omega) (show 0 ≤ w ∧ w ≤ 13 by omega) ?_ ?_
        · intro (g9 : br_is (M 44) (M 45) (M 46) (M 47) (M 5) (M 6) (M 4) i w)
          show Q 40 [(6, (0, 0, 1, 13, i + 1)), (2, (0, 0, (-2147483648), 2147483647, xa_ib 3 op (xa_ib 5 (xa_ib 6 1 i) (-1)))), (5, (0, 0, (-1), 13, w)), (4, (0, 0, 0, 11, kk)), (3, (0, 0, 0, 11, nn)), (0, (2, 43, 0, 0, 0)), (1, (2, 1, 0, 0, 0))] [] M
          refine hgo.2.1 40 _ [(6, (0, 0, 0, 12, i + 1)), (5, (0, 0, (-1), 13, w)), (4, (0, 0, 0, 11, kk)), (3, (0, 0, 0, 11, nn)), (2, (0, 0, (-2147483648), 2147483647, xa_ib 3 op (xa_ib 5 (xa_ib 6 1 i) (-1)))), (0, (2, 43, 0, 0, 0)), (1, (2, 1, 0, 0, 0))] _ _ (xa_subI rfl rfl (fun _ _ _ _ => by omega) (xa_subI rfl rfl (fun _ _ _ _ => by omega) (xa_subI rfl rfl (fun _ _ _ _ => by omega) (xa_subI rfl rfl (fun _ _ _ _ => by omega) (xa_subI rfl rfl (fun _ _ _ _ => by omega) (xa_subR rfl (xa_subR rfl (xa_sub0)))))))) ?_
          exact ih2 (i + 1) (xa_ib 3 op (xa_ib 5 (xa_ib 6 1 i) (-1))) (by omega) (rw_oi1 (by omega) (by omega) (by omega) g9 ho) (by omega)
        · intro (g9 : ¬ br_is (M 44) (M 45) (M 46) (M 47) (M 5) (M 6) (M 4) i w)
          show Q 40 [(6, (0, 0, 1, 13, i + 1)), (2, (0, 0, (-2147483648), 2147483647, xa_ib 3 op (-1))), (5, (0, 0, (-1), 13, w)), (4, (0, 0, 0, 11, kk)), (3, (0, 0, 0, 11, nn)), (0, (2, 43, 0, 0, 0)), (1, (2, 1, 0, 0, 0))] [] M
          refine hgo.2.1 40 _ [(6, (0, 0, 0, 12, i + 1)), (5, (0, 0, (-1), 13, w)), (4, (0, 0, 0, 11, kk)), (3, (0, 0, 0, 11, nn)), (2, (0, 0, (-2147483648), 2147483647, xa_ib 3 op (-1))), (0, (2, 43, 0, 0, 0)), (1, (2, 1, 0, 0, 0))] _ _ (xa_subI rfl rfl (fun _ _ _ _ => by omega) (xa_subI rfl rfl (fun _ _ _ _ => by omega) (xa_subI rfl rfl (fun _ _ _ _ => by omega) (xa_subI rfl rfl (fun _ _ _ _ => by omega) (xa_subI rfl rfl (fun _ _ _ _ => by omega) (xa_subR rfl (xa_subR rfl (xa_sub0)))))))) ?_
          exact ih2 (i + 1) (xa_ib 3 op (-1)) (by omega) (rw_oi2 (by omega) g9 ho) (by omega)
  have loop : ∀ (n : Nat) (kk nn op : Int), 0 ≤ kk ∧ kk ≤ 12 → 0 ≤ nn ∧ nn ≤ kk → nn = kk → rw_gd (M 44) (M 45) (M 46) (M 47) (M 5) (M 6) (M 4) (M 1 9) (M 43 4) nn op → 12 - kk < (n : Int) → Q 14 [(4, (0, 0, 0, 12, kk)), (3, (0, 0, 0, 12, nn)), (2, (0, 0, (-2147483648), 2147483647, op)), (0, (2, 43, 0, 0, 0)), (1, (2, 1, 0, 0, 0))] [] M := by
    intro n
    induction n with
    | zero => intro kk nn op k1 n1 hkn hG hms; omega
    | succ n ih =>
      intro kk nn op k1 n1 hkn hG hms
      refine hgo.1 19 [14, 40] 14 _ _ _ ?_
      refine And.intro ?_ ?_
      · intro (c1 : 12 ≤ kk)
        show post (some (0, 0, 0, 12, nn)) M
        exact k _ (by omega) (rw_gd_e hn hG (rw_gd12 hl (by omega) hG))
      · intro (c1 : kk < 12)
        refine And.intro ?_ ?_
        · intro (c2 : op = 0)
          show post (some (0, 0, 0, 12, nn)) M
          exact k _ (by omega) (rw_gd_e hn hG (fun i i0 i1 => by rw [c2]; exact bt_0 i0 (by omega)))
        · intro (c2 : ¬ op = 0)
          show xa_C (xl_I b) A h0 _ 199 [(2, 43, 0, 0, 0), (0, 0, (-2147483648), 2147483647, op)] M _
          refine rw_199 hl ?_
          intro r120 (i3 : -1 ≤ r120 ∧ r120 ≤ 11) (t9 : gg_P (fun i => bt op i = 1) (fun i => - M 47 i) (M 43 4) r120)
          obtain ⟨p1, p2, p3⟩ := rw_pick hl hG c2 t9
          show xa_C (xl_I b) A h0 _ 196 [(2, 43, 0, 0, 0), (2, 1, 0, 0, 0), (0, 0, (-1), 11, r120)] M _
          refine cx_196f (show 0 ≤ r120 ∧ r120 ≤ 11 by omega) hn ?_
          intro r121 (g9 : gg_P (br_is (M 44) (M 45) (M 46) (M 47) (M 5) (M 6) (M 4) r120) (M 4) (M 1 9) r121) (i4 : -1 ≤ r121 ∧ r121 ≤ 13)
          obtain ⟨q1, q2, q3⟩ := rw_pickw (hF r120 p1.1 p1.2) g9
          show Q 40 [(6, (0, 0, 0, 0, 0)), (5, (0, 0, (-1), 13, r121)), (4, (0, 0, 0, 12, kk)), (3, (0, 0, 0, 12, nn)), (2, (0, 0, (-2147483648), 2147483647, op)), (0, (2, 43, 0, 0, 0)), (1, (2, 1, 0, 0, 0))] [] M
          refine hgo.2.1 40 _ [(6, (0, 0, 0, 12, 0)), (5, (0, 0, (-1), 13, r121)), (4, (0, 0, 0, 11, kk)), (3, (0, 0, 0, 11, nn)), (2, (0, 0, (-2147483648), 2147483647, op)), (0, (2, 43, 0, 0, 0)), (1, (2, 1, 0, 0, 0))] _ _ (xa_subI rfl rfl (fun _ _ _ _ => by omega) (xa_subI rfl rfl (fun _ _ _ _ => by omega) (xa_subI rfl rfl (fun _ _ _ _ => by omega) (xa_subI rfl rfl (fun _ _ _ _ => by omega) (xa_subI rfl rfl (fun _ _ _ _ => by omega) (xa_subR rfl (xa_subR rfl (xa_sub0)))))))) ?_
          exact inner op r121 kk nn (by omega) (by omega) (by omega) (fun op2 ho2 => ih (kk + 1) (nn + 1) op2 (by omega) (by omega) (by omega) (rw_gd1 hl hG p1 p2 p3 q1 q2 q3 ho2.1 (fun j j0 j1 => ⟨fun h => ⟨((ho2.2 j j0 j1).mp h).1, ((ho2.2 j j0 j1).mp h).2 j1⟩, fun h => (ho2.2 j j0 j1).mpr ⟨h.1, fun _ => h.2⟩⟩)) (by omega)) 13 0 op (by omega) (rw_oi0 hG.1.1) (by omega)
  refine hgo.1 16 [14, 40] 0 _ _ _ ?_
  show Q 14 [(4, (0, 0, 0, 0, 0)), (3, (0, 0, 0, 0, 0)), (2, (0, 0, (-2147483648), 2147483647, xa_w32 ((xa_ib 6 1 (M 43 4)) - 1))), (0, (2, 43, 0, 0, 0)), (1, (2, 1, 0, 0, 0))] [] M
  refine hgo.2.1 14 _ [(4, (0, 0, 0, 12, 0)), (3, (0, 0, 0, 12, 0)), (2, (0, 0, (-2147483648), 2147483647, xa_w32 ((xa_ib 6 1 (M 43 4)) - 1))), (0, (2, 43, 0, 0, 0)), (1, (2, 1, 0, 0, 0))] _ _ (xa_subI rfl rfl (fun _ _ _ _ => by omega) (xa_subI rfl rfl (fun _ _ _ _ => by omega) (xa_subI rfl rfl (fun _ _ _ _ => by omega) (xa_subR rfl (xa_subR rfl (xa_sub0)))))) ?_
  exact loop 13 0 0 (xa_w32 ((xa_ib 6 1 (M 43 4)) - 1)) (by omega) (by omega) rfl (rw_gd0 hl) (by omega)
theorem rw_194 {b : Bool} {A : Nat → Nat} {h0 : g_H} {d : Nat} {M : xa_M} {post : Option xa_V → xa_M → Prop} (hn : 0 ≤ M 1 9 ∧ M 1 9 ≤ 14) (hl : 0 ≤ M 43 4 ∧ M 43 4 ≤ 12) (k : ∀ (r : Int) (M1 : xa_M), r = br_b (br_no (M 44) (M 45) (M 46) (M 47) (M 5) (M 6) (M 4) (M 1 9)) (M 43 4).toNat → (∀ q j, ¬ q = 48 → ¬ q = 49 → M1 q j = M q j) → M1 48 1 = 1 → rw_s194 (br_is (M 44) (M 45) (M 46) (M 47) (M 5) (M 6) (M 4)) (M 1 9) (M 43 4) r (M1 49) → post (some (0, 0, (-2147483648), 2147483647, r)) M1) : xa_C (xl_I b) A h0 (d + 6) 194 [(2, 0, 0, 0, 0)] M post := by
  refine xa_C_arg [(2, 0, 0, 0, 0)] (xa_svR (xa_sv0)) ?_
  refine xa_meth (Q0 := (2, 1, false, 0, 0, 11)) (by decide +kernel) ⟨rfl, rfl⟩ (full := s_c_194) rfl rfl ?_
  intro hM hv Q hgo
  refine hgo.1 27 [] 0 _ _ _ ?_
  show xa_C (xl_I b) A h0 _ 195 [(2, 43, 0, 0, 0), (2, 1, 0, 0, 0)] M _
  refine cx_195f hn hl ?_
  show xa_C (xl_I b) A h0 _ 59 [(2, 48, 0, 0, 0)] M _
  refine cx_59_48 ?_
  refine And.intro ?_ ?_
  · intro (c1 : ¬ (br_b (br_no (M 44) (M 45) (M 46) (M 47) (M 5) (M 6) (M 4) (M 1 9)) (M 43 4).toNat) = 0)
    show xa_C (xl_I b) A h0 _ 60 [(2, 48, 0, 0, 0), (1, 0, (-1), (-1), (-1))] (xa_up M 48 1 0) _
    refine cx_60_48 (show (0 : Int) ≤ 0 by omega) ?_ ?_
    · intro (i2 : 16 ≤ 0)
      show post (some (0, 0, (-2147483648), 2147483647, br_b (br_no (M 44) (M 45) (M 46) (M 47) (M 5) (M 6) (M 4) (M 1 9)) (M 43 4).toNat)) (xa_up M 48 1 0)
      exact k _ _ rfl (fun q j h1 h2 => by simp [xa_up, h1, h2]) (by exfalso; omega) (by exfalso; omega)
    · intro (i3 : 0 < 16)
      show post (some (0, 0, (-2147483648), 2147483647, br_b (br_no (M 44) (M 45) (M 46) (M 47) (M 5) (M 6) (M 4) (M 1 9)) (M 43 4).toNat)) (xa_up (xa_up (xa_up M 48 1 0) 49 0 (-1)) 48 1 (xa_w32 (0 + 1)))
      exact k _ _ rfl (fun q j h1 h2 => by simp [xa_up, h1, h2]) (by show xa_w32 (0 + 1) = 1; decide) ⟨fun _ => (xa_up_ne (by omega)).trans xa_up_eq, fun h => absurd h c1⟩
  · intro (c1 : (br_b (br_no (M 44) (M 45) (M 46) (M 47) (M 5) (M 6) (M 4) (M 1 9)) (M 43 4).toNat) = 0)
    show xa_C (xl_I b) A h0 _ 198 [(2, 43, 0, 0, 0), (2, 1, 0, 0, 0)] (xa_up M 48 1 0) _
    refine rw_198 (show 0 ≤ (M 1 9) ∧ (M 1 9) ≤ 14 by omega) (show 0 ≤ (M 43 4) ∧ (M 43 4) ≤ 12 by omega) (fun i i0 i1 => rw_no0 (n := (M 43 4).toNat) (by omega) c1 i i0 (by have i2 : i < M 43 4 := i1; omega)) ?_
    intro r122 (i4 : 0 ≤ r122 ∧ r122 ≤ 12) (g122 : rw_mc (br_is (M 44) (M 45) (M 46) (M 47) (M 5) (M 6) (M 4)) (M 1 9) (M 43 4) r122)
    show xa_C (xl_I b) A h0 _ 60 [(2, 48, 0, 0, 0), (1, 0, 0, 12, r122)] (xa_up M 48 1 0) _
    refine cx_60_48 (show (0 : Int) ≤ 0 by omega) ?_ ?_
    · intro (i5 : 16 ≤ 0)
      show post (some (0, 0, (-2147483648), 2147483647, br_b (br_no (M 44) (M 45) (M 46) (M 47) (M 5) (M 6) (M 4) (M 1 9)) (M 43 4).toNat)) (xa_up M 48 1 0)
      exact k _ _ rfl (fun q j h1 h2 => by simp [xa_up, h1, h2]) (by exfalso; omega) (by exfalso; omega)
    · intro (i6 : 0 < 16)
      show post (some (0, 0, (-2147483648), 2147483647, br_b (br_no (M 44) (M 45) (M 46) (M 47) (M 5) (M 6) (M 4) (M 1 9)) (M 43 4).toNat)) (xa_up (xa_up (xa_up M 48 1 0) 49 0 r122) 48 1 (xa_w32 (0 + 1)))
      exact k _ _ rfl (fun q j h1 h2 => by simp [xa_up, h1, h2]) (by show xa_w32 (0 + 1) = 1; decide) ⟨fun h => absurd c1 h, fun _ => by rw [show (xa_up (xa_up (xa_up M 48 1 0) 49 0 r122) 48 1 (xa_w32 (0 + 1))) 49 0 = r122 from (xa_up_ne (by omega)).trans xa_up_eq]; exact g122⟩
theorem rw_m194 {A : Nat → Nat} {h0 : g_H} {d : Nat} {M : xa_M} {post : Option xa_V → xa_M → Prop} (hI : xm_Inv M) (k : ∀ (lo hi r : Int) (M1 : xa_M), r = br_b (br_no (M 100) (M 101) (M 102) (M 103) (M 64) (M 65) (M 63) (M 60 0)) (M 60 61).toNat → xm_cor M M1 → M1 60 20 = 1 → rw_m194s (br_is (M 100) (M 101) (M 102) (M 103) (M 64) (M 65) (M 63)) (M 60 0) (M 60 61) r (M1 74) → post (some (0, 0, lo, hi, r)) M1) : xa_C xm_I A h0 (d + 3) 291 [(2, 60, 0, 0, 0)] M post := by
  refine xa_meth (Q0 := (8, 1, false, 0, 0, 12)) (by decide +kernel) ⟨rfl, rfl⟩ (full := s_c_291) rfl rfl ?_
  intro hM hv Q hgo
  have b0 := xm_f0 hM
  have b6 := xm_f6 hM
  have b61 := xm_f61 hM
  have b11 := xm_f11 hM
  have b15 := xm_f15 hM
  have b16 := xm_f16 hM
  have hlh := hI.2.2.2.1
  have loop2 : ∀ (n : Nat) (x3 x2 x1 : Int) (M1 : xa_M), 0 ≤ x3 ∧ x3 ≤ 2147483647 → xm_cor M M1 → x1 = br_b (br_no (M 100) (M 101) (M 102) (M 103) (M 64) (M 65) (M 63) (M 60 0)) (M 60 61).toNat → (¬ x1 = 0 → x2 = -1) → (x1 = 0 → rw_mb (br_is (M 100) (M 101) (M 102) (M 103) (M 64) (M 65) (M 63)) (M 60 0) (M 60 61) x3 x2) → x3 ≤ xa_ib 6 1 (M 60 0) → ((xa_ib 6 1 (M 60 0) - x3).toNat : Int) < (n : Int) → Q 100 [(3, (0, 0, 0, 2147483647, x3)), (2, (0, 0, (-2147483648), 2147483647, x2)), (1, (0, 0, (-2147483648), 2147483647, x1)), (0, (2, 60, 0, 0, 0))] [] M1 := by
    intro n
    induction n with
    | zero => intro x3 x2 x1 M1 b3 hc hx1 hz hb hle hms; omega
    | succ n ih2 =>
      intro x3 x2 x1 M1 b3 hc hx1 hz hb hle hms2
      have e0 := xm_corf hc 0 (by omega)
      have e6 := xm_corf hc 6 (by omega)
      have e61 := xm_corf hc 61 (by omega)
      have e11 := xm_corf hc 11 (by omega)
      have e15 := xm_corf hc 15 (by omega)
      have e16 := xm_corf hc 16 (by omega)
      have rT := xa_ib_rg 6 1 (M 60 0)
      have eT : xa_ib 6 1 (M1 60 0) = xa_ib 6 1 (M 60 0) := by rw [e0]
      have w3 : x3 < xa_ib 6 1 (M 60 0) → xa_w32 (x3 + 1) = x3 + 1 := fun h => xa_w32_id (by omega) (by omega)
      have loop3 : x1 = 0 → rw_mb (br_is (M 100) (M 101) (M 102) (M 103) (M 64) (M 65) (M 63)) (M 60 0) (M 60 61) x3 x2 → (x2 = -1 ∨ xa_bc x3 < x2) → ∀ (n : Nat) (x5 x4 : Int) (M1 : xa_M), 0 ≤ x5 ∧ x5 ≤ 12 → 0 ≤ x4 ∧ x4 ≤ 1 → 0 ≤ x3 ∧ x3 ≤ 2147483646 → xm_cor M M1 → x3 < xa_ib 6 1 (M 60 0) → (x4 = 0 → ∃ i, (0 ≤ i ∧ i < M 60 61) ∧ ¬ rw_cv (br_is (M 100) (M 101) (M 102) (M 103) (M 64) (M 65) (M 63)) (M 60 0) x3 i) → (¬ x4 = 0 → ∀ i, 0 ≤ i → i < x5 → rw_cv (br_is (M 100) (M 101) (M 102) (M 103) (M 64) (M 65) (M 63)) (M 60 0) x3 i) → 12 - x5 < (n : Int) → Q 136 [(5, (0, 0, 0, 12, x5)), (4, (0, 0, 0, 1, x4)), (3, (0, 0, 0, 2147483646, x3)), (2, (0, 0, (-2147483648), 2147483647, x2)), (1, (0, 0, (-2147483648), 2147483647, x1)), (0, (2, 60, 0, 0, 0))] [] M1 := by
        intro z1 z2 z3 n
        induction n with
        | zero => intro x5 x4 M1 b5 b4 f3 hc h3T hc0 hc1 hms; omega
        | succ n ih3 =>
          intro x5 x4 M1 b5 b4 f3 hc h3T hc0 hc1 hms3
          have e0 := xm_corf hc 0 (by omega)
          have e6 := xm_corf hc 6 (by omega)
          have e61 := xm_corf hc 61 (by omega)
          have e11 := xm_corf hc 11 (by omega)
          have e15 := xm_corf hc 15 (by omega)
          have e16 := xm_corf hc 16 (by omega)
          have rT := xa_ib_rg 6 1 (M 60 0)
          have loop4 : ∀ (n : Nat) (x7 x6 : Int) (M1 : xa_M), 0 ≤ x7 ∧ x7 ≤ 14 → 0 ≤ x6 ∧ x6 ≤ 1 → 0 ≤ x5 ∧ x5 ≤ 11 → 0 ≤ x4 ∧ x4 ≤ 1 → 0 ≤ x3 ∧ x3 ≤ 2147483646 → xm_cor M M1 → x3 < xa_ib 6 1 (M 60 0) → br_s (fun v => bt x3 v = 1 ∧ br_is (M 100) (M 101) (M 102) (M 103) (M 64) (M 65) (M 63) x5 v) x7 x6 → (x7 ≤ M 60 0 ∧ x5 < M 60 61) → (∀ i, 0 ≤ i → i < x5 → rw_cv (br_is (M 100) (M 101) (M 102) (M 103) (M 64) (M 65) (M 63)) (M 60 0) x3 i) → 14 - x7 < (n : Int) → Q 156 [(7, (0, 0, 0, 14, x7)), (6, (0, 0, 0, 1, x6)), (5, (0, 0, 0, 11, x5)), (4, (0, 0, 0, 1, x4)), (3, (0, 0, 0, 2147483646, x3)), (2, (0, 0, (-2147483648), 2147483647, x2)), (1, (0, 0, (-2147483648), 2147483647, x1)), (0, (2, 60, 0, 0, 0))] [] M1 := by
            intro n
            induction n with
            | zero => intro x7 x6 M1 b7 b6 f5 f4 f3 hc h3T hs h5L hcv hms; omega
            | succ n ih4 =>
              intro x7 x6 M1 b7 b6 f5 f4 f3 hc h3T hs h5L hcv hms4
              have e0 := xm_corf hc 0 (by omega)
              have e6 := xm_corf hc 6 (by omega)
              have e61 := xm_corf hc 61 (by omega)
              have e11 := xm_corf hc 11 (by omega)
              have e15 := xm_corf hc 15 (by omega)
              have e16 := xm_corf hc 16 (by omega)
              have rT := xa_ib_rg 6 1 (M 60 0)
              refine hgo.1 36 [9, 22, 100, 136, 156] 156 _ _ _ ?_
              refine And.intro ?_ ?_
              · intro (c1 : (M1 60 0) ≤ x7)
                show Q 136 [(5, (0, 0, 1, 12, x5 + 1)), (4, (0, 0, 0, 1, x6)), (7, (0, 0, 0, 14, x7)), (6, (0, 0, 0, 1, x6)), (3, (0, 0, 0, 2147483646, x3)), (2, (0, 0, (-2147483648), 2147483647, x2)), (1, (0, 0, (-2147483648), 2147483647, x1)), (0, (2, 60, 0, 0, 0))] [] M1
                refine hgo.2.1 136 _ [(5, (0, 0, 0, 12, x5 + 1)), (4, (0, 0, 0, 1, x6)), (3, (0, 0, 0, 2147483646, x3)), (2, (0, 0, (-2147483648), 2147483647, x2)), (1, (0, 0, (-2147483648), 2147483647, x1)), (0, (2, 60, 0, 0, 0))] _ _ (xa_subI rfl rfl (fun _ _ _ _ => by omega) (xa_subI rfl rfl (fun _ _ _ _ => by omega) (xa_subI rfl rfl (fun _ _ _ _ => by omega) (xa_subI rfl rfl (fun _ _ _ _ => by omega) (xa_subI rfl rfl (fun _ _ _ _ => by omega) (xa_subR rfl xa_sub0)))))) ?_
                exact ih3 (x5 + 1) x6 M1 (by omega) (by omega) (by omega) hc (by omega) (fun h => ⟨x5, by omega, fun ⟨v, v0, v1, v2⟩ => br_s_no hs (by omega) v v0.1 (by omega) ⟨v1, v2⟩⟩) (fun h i i0 i1 => by
                  by_cases c : i = x5
                  · rw [c]
                    obtain ⟨v, v0, v1, v2⟩ := hs.mp (by omega)
                    exact ⟨v, by omega, v2.1, v2.2⟩
                  · exact hcv i i0 (by omega)) (by omega)
              · intro (c1 : x7 < (M1 60 0))
                refine And.intro ?_ ?_
                · intro (c2 : ¬ x6 = 0)
                  show Q 156 [(7, (0, 0, 1, 15, x7 + 1)), (6, (0, 0, 1, 1, 1)), (5, (0, 0, 0, 11, x5)), (4, (0, 0, 0, 1, x4)), (3, (0, 0, 0, 2147483646, x3)), (2, (0, 0, (-2147483648), 2147483647, x2)), (1, (0, 0, (-2147483648), 2147483647, x1)), (0, (2, 60, 0, 0, 0))] [] M1
                  refine hgo.2.1 156 _ [(7, (0, 0, 0, 14, x7 + 1)), (6, (0, 0, 0, 1, 1)), (5, (0, 0, 0, 11, x5)), (4, (0, 0, 0, 1, x4)), (3, (0, 0, 0, 2147483646, x3)), (2, (0, 0, (-2147483648), 2147483647, x2)), (1, (0, 0, (-2147483648), 2147483647, x1)), (0, (2, 60, 0, 0, 0))] _ _ (xa_subI rfl rfl (fun _ _ _ _ => by omega) (xa_subI rfl rfl (fun _ _ _ _ => by omega) (xa_subI rfl rfl (fun _ _ _ _ => by omega) (xa_subI rfl rfl (fun _ _ _ _ => by omega) (xa_subI rfl rfl (fun _ _ _ _ => by omega) (xa_subI rfl rfl (fun _ _ _ _ => by omega) (xa_subI rfl rfl (fun _ _ _ _ => by omega) (xa_subR rfl xa_sub0)))))))) ?_
                  exact ih4 (x7 + 1) 1 M1 (by omega) (by omega) (by omega) (by omega) (by omega) hc (by omega) (br_s_k hs (by omega)) ⟨by omega, h5L.2⟩ hcv (by omega)
                · intro (c2 : x6 = 0)
                  show xa_C xm_I A h0 _ 248 [(0, 0, 0, 2147483646, x3), (0, 0, 0, 14, x7)] M1 _
                  refine ct_has (fun r3 zr3 er3 => ?_)
                  refine And.intro ?_ ?_
                  · intro (c4 : r3 = 0)
                    show Q 156 [(7, (0, 0, 1, 15, x7 + 1)), (6, (0, 0, 0, 0, 0)), (5, (0, 0, 0, 11, x5)), (4, (0, 0, 0, 1, x4)), (3, (0, 0, 0, 2147483646, x3)), (2, (0, 0, (-2147483648), 2147483647, x2)), (1, (0, 0, (-2147483648), 2147483647, x1)), (0, (2, 60, 0, 0, 0))] [] M1
                    refine hgo.2.1 156 _ [(7, (0, 0, 0, 14, x7 + 1)), (6, (0, 0, 0, 1, 0)), (5, (0, 0, 0, 11, x5)), (4, (0, 0, 0, 1, x4)), (3, (0, 0, 0, 2147483646, x3)), (2, (0, 0, (-2147483648), 2147483647, x2)), (1, (0, 0, (-2147483648), 2147483647, x1)), (0, (2, 60, 0, 0, 0))] _ _ (xa_subI rfl rfl (fun _ _ _ _ => by omega) (xa_subI rfl rfl (fun _ _ _ _ => by omega) (xa_subI rfl rfl (fun _ _ _ _ => by omega) (xa_subI rfl rfl (fun _ _ _ _ => by omega) (xa_subI rfl rfl (fun _ _ _ _ => by omega) (xa_subI rfl rfl (fun _ _ _ _ => by omega) (xa_subI rfl rfl (fun _ _ _ _ => by omega) (xa_subR rfl xa_sub0)))))))) ?_
                    exact ih4 (x7 + 1) 0 M1 (by omega) (by omega) (by omega) (by omega) (by omega) hc (by omega) (br_s_n hs (by omega) (fun hh => by have := er3.mpr hh.1; omega)) ⟨by omega, h5L.2⟩ hcv (by omega)
                  · intro (c4 : ¬ r3 = 0)
                    refine And.intro (show 0 ≤ x7 ∧ x7 < 14 by omega) ?_
                    refine And.intro (show 0 ≤ x7 ∧ x7 < 14 by omega) ?_
                    refine And.intro (show 0 ≤ x7 ∧ x7 < 14 by omega) ?_
                    show xa_C xm_I A h0 _ 292 [(2, 60, 0, 0, 0), (0, 0, 0, 11, x5), (0, 0, 0, 9, M1 64 x7), (0, 0, 0, 9, M1 65 x7), (0, 0, 0, 400, M1 63 x7)] M1 _
                    refine ct_isLeft (by omega) (by omega) (fun r5 zr5 er5 => ?_)
                    refine And.intro ?_ ?_
                    · intro (c6 : r5 = 0)
                      show Q 156 [(7, (0, 0, 1, 15, x7 + 1)), (6, (0, 0, 0, 0, 0)), (5, (0, 0, 0, 11, x5)), (4, (0, 0, 0, 1, x4)), (3, (0, 0, 0, 2147483646, x3)), (2, (0, 0, (-2147483648), 2147483647, x2)), (1, (0, 0, (-2147483648), 2147483647, x1)), (0, (2, 60, 0, 0, 0))] [] M1
                      refine hgo.2.1 156 _ [(7, (0, 0, 0, 14, x7 + 1)), (6, (0, 0, 0, 1, 0)), (5, (0, 0, 0, 11, x5)), (4, (0, 0, 0, 1, x4)), (3, (0, 0, 0, 2147483646, x3)), (2, (0, 0, (-2147483648), 2147483647, x2)), (1, (0, 0, (-2147483648), 2147483647, x1)), (0, (2, 60, 0, 0, 0))] _ _ (xa_subI rfl rfl (fun _ _ _ _ => by omega) (xa_subI rfl rfl (fun _ _ _ _ => by omega) (xa_subI rfl rfl (fun _ _ _ _ => by omega) (xa_subI rfl rfl (fun _ _ _ _ => by omega) (xa_subI rfl rfl (fun _ _ _ _ => by omega) (xa_subI rfl rfl (fun _ _ _ _ => by omega) (xa_subI rfl rfl (fun _ _ _ _ => by omega) (xa_subR rfl xa_sub0)))))))) ?_
                      exact ih4 (x7 + 1) 0 M1 (by omega) (by omega) (by omega) (by omega) (by omega) hc (by omega) (br_s_n hs (by omega) (fun hh => by have := er5.mpr ((br_isM hc).mpr hh.2); omega)) ⟨by omega, h5L.2⟩ hcv (by omega)
                    · intro (c6 : ¬ r5 = 0)
                      show Q 156 [(7, (0, 0, 1, 15, x7 + 1)), (6, (0, 0, 1, 1, 1)), (5, (0, 0, 0, 11, x5)), (4, (0, 0, 0, 1, x4)), (3, (0, 0, 0, 2147483646, x3)), (2, (0, 0, (-2147483648), 2147483647, x2)), (1, (0, 0, (-2147483648), 2147483647, x1)), (0, (2, 60, 0, 0, 0))] [] M1
                      refine hgo.2.1 156 _ [(7, (0, 0, 0, 14, x7 + 1)), (6, (0, 0, 0, 1, 1)), (5, (0, 0, 0, 11, x5)), (4, (0, 0, 0, 1, x4)), (3, (0, 0, 0, 2147483646, x3)), (2, (0, 0, (-2147483648), 2147483647, x2)), (1, (0, 0, (-2147483648), 2147483647, x1)), (0, (2, 60, 0, 0, 0))] _ _ (xa_subI rfl rfl (fun _ _ _ _ => by omega) (xa_subI rfl rfl (fun _ _ _ _ => by omega) (xa_subI rfl rfl (fun _ _ _ _ => by omega) (xa_subI rfl rfl (fun _ _ _ _ => by omega) (xa_subI rfl rfl (fun _ _ _ _ => by omega) (xa_subI rfl rfl (fun _ _ _ _ => by omega) (xa_subI rfl rfl (fun _ _ _ _ => by omega) (xa_subR rfl xa_sub0)))))))) ?_
                      exact ih4 (x7 + 1) 1 M1 (by omega) (by omega) (by omega) (by omega) (by omega) hc (by omega) (br_s_y (by omega) ⟨er3.mp (by omega), (br_isM hc).mp (er5.mp (by omega))⟩) ⟨by omega, h5L.2⟩ hcv (by omega)
          refine hgo.1 18 [9, 22, 100, 136, 156] 136 _ _ _ ?_
          refine And.intro ?_ ?_
          · intro (c1 : (M1 60 61) ≤ x5)
            refine And.intro ?_ ?_
            · intro (c2 : x4 = 0)
              show Q 100 [(3, (0, 0, 1, 2147483647, x3 + 1)), (5, (0, 0, 0, 12, x5)), (4, (0, 0, 0, 1, x4)), (2, (0, 0, (-2147483648), 2147483647, x2)), (1, (0, 0, (-2147483648), 2147483647, x1)), (0, (2, 60, 0, 0, 0))] [] M1
              refine hgo.2.1 100 _ [(3, (0, 0, 0, 2147483647, x3 + 1)), (2, (0, 0, (-2147483648), 2147483647, x2)), (1, (0, 0, (-2147483648), 2147483647, x1)), (0, (2, 60, 0, 0, 0))] _ _ (xa_subI rfl rfl (fun _ _ _ _ => by omega) (xa_subI rfl rfl (fun _ _ _ _ => by omega) (xa_subI rfl rfl (fun _ _ _ _ => by omega) (xa_subR rfl xa_sub0)))) ?_
              exact ih2 (x3 + 1) x2 x1 M1 (by omega) hc hx1 (fun h => absurd z1 h) (fun _ => rw_mb_n (fun hh => by obtain ⟨i, hi, hn9⟩ := hc0 c2; exact hn9 (hh i hi.1 hi.2)) z2) (by clear hc0; omega) (by clear hc0; omega)
            · intro (c2 : ¬ x4 = 0)
              show xa_C xm_I A h0 _ 136 [(0, 0, 0, 2147483646, x3)] M1 _
              refine ct_bitCount ?_
              show Q 100 [(3, (0, 0, 1, 2147483647, x3 + 1)), (2, (0, 0, (-2147483648), 2147483647, xa_bc x3)), (5, (0, 0, 0, 12, x5)), (4, (0, 0, 0, 1, x4)), (1, (0, 0, (-2147483648), 2147483647, x1)), (0, (2, 60, 0, 0, 0))] [] M1
              refine hgo.2.1 100 _ [(3, (0, 0, 0, 2147483647, x3 + 1)), (2, (0, 0, (-2147483648), 2147483647, xa_bc x3)), (1, (0, 0, (-2147483648), 2147483647, x1)), (0, (2, 60, 0, 0, 0))] _ _ (xa_subI rfl rfl (fun _ _ _ _ => by omega) (xa_subI rfl rfl (fun _ _ _ _ => by omega) (xa_subI rfl rfl (fun _ _ _ _ => by omega) (xa_subR rfl xa_sub0)))) ?_
              exact ih2 (x3 + 1) (xa_bc x3) x1 M1 (by omega) hc hx1 (fun h => absurd z1 h) (fun _ => rw_mb_y ⟨by omega, by have := (rw_pN (N := M 60 0) (by omega)).2; omega⟩ (fun i i0 i1 => hc1 c2 i i0 (by omega)) z3 z2) (by clear hc0; omega) (by clear hc0; omega)
          · intro (c1 : x5 < (M1 60 61))
            refine And.intro ?_ ?_
            · intro (c3 : x4 = 0)
              refine And.intro ?_ ?_
              · intro (c4 : x4 = 0)
                show Q 100 [(3, (0, 0, 1, 2147483647, x3 + 1)), (5, (0, 0, 0, 12, x5)), (4, (0, 0, 0, 1, x4)), (2, (0, 0, (-2147483648), 2147483647, x2)), (1, (0, 0, (-2147483648), 2147483647, x1)), (0, (2, 60, 0, 0, 0))] [] M1
                refine hgo.2.1 100 _ [(3, (0, 0, 0, 2147483647, x3 + 1)), (2, (0, 0, (-2147483648), 2147483647, x2)), (1, (0, 0, (-2147483648), 2147483647, x1)), (0, (2, 60, 0, 0, 0))] _ _ (xa_subI rfl rfl (fun _ _ _ _ => by omega) (xa_subI rfl rfl (fun _ _ _ _ => by omega) (xa_subI rfl rfl (fun _ _ _ _ => by omega) (xa_subR rfl xa_sub0)))) ?_
                exact ih2 (x3 + 1) x2 x1 M1 (by omega) hc hx1 (fun h => absurd z1 h) (fun _ => rw_mb_n (fun hh => by obtain ⟨i, hi, hn9⟩ := hc0 c3; exact hn9 (hh i hi.1 hi.2)) z2) (by clear hc0; omega) (by clear hc0; omega)
              · intro (c4 : ¬ x4 = 0)
                show xa_C xm_I A h0 _ 136 [(0, 0, 0, 2147483646, x3)] M1 _
                refine ct_bitCount ?_
                show Q 100 [(3, (0, 0, 1, 2147483647, x3 + 1)), (2, (0, 0, (-2147483648), 2147483647, xa_bc x3)), (5, (0, 0, 0, 12, x5)), (4, (0, 0, 0, 1, x4)), (1, (0, 0, (-2147483648), 2147483647, x1)), (0, (2, 60, 0, 0, 0))] [] M1
                refine hgo.2.1 100 _ [(3, (0, 0, 0, 2147483647, x3 + 1)), (2, (0, 0, (-2147483648), 2147483647, xa_bc x3)), (1, (0, 0, (-2147483648), 2147483647, x1)), (0, (2, 60, 0, 0, 0))] _ _ (xa_subI rfl rfl (fun _ _ _ _ => by omega) (xa_subI rfl rfl (fun _ _ _ _ => by omega) (xa_subI rfl rfl (fun _ _ _ _ => by omega) (xa_subR rfl xa_sub0)))) ?_
                exact ih2 (x3 + 1) (xa_bc x3) x1 M1 (by omega) hc hx1 (fun h => absurd z1 h) (fun _ => rw_mb_y ⟨by omega, by have := (rw_pN (N := M 60 0) (by omega)).2; omega⟩ (fun i i0 i1 => absurd c3 c4) z3 z2) (by clear hc0; omega) (by clear hc0; omega)
            · intro (c3 : ¬ x4 = 0)
              show Q 156 [(7, (0, 0, 0, 0, 0)), (6, (0, 0, 0, 0, 0)), (5, (0, 0, 0, 12, x5)), (4, (0, 0, 0, 1, x4)), (3, (0, 0, 0, 2147483646, x3)), (2, (0, 0, (-2147483648), 2147483647, x2)), (1, (0, 0, (-2147483648), 2147483647, x1)), (0, (2, 60, 0, 0, 0))] [] M1
              refine hgo.2.1 156 _ [(7, (0, 0, 0, 14, 0)), (6, (0, 0, 0, 1, 0)), (5, (0, 0, 0, 11, x5)), (4, (0, 0, 0, 1, x4)), (3, (0, 0, 0, 2147483646, x3)), (2, (0, 0, (-2147483648), 2147483647, x2)), (1, (0, 0, (-2147483648), 2147483647, x1)), (0, (2, 60, 0, 0, 0))] _ _ (xa_subI rfl rfl (fun _ _ _ _ => by omega) (xa_subI rfl rfl (fun _ _ _ _ => by omega) (xa_subI rfl rfl (fun _ _ _ _ => by omega) (xa_subI rfl rfl (fun _ _ _ _ => by omega) (xa_subI rfl rfl (fun _ _ _ _ => by omega) (xa_subI rfl rfl (fun _ _ _ _ => by omega) (xa_subI rfl rfl (fun _ _ _ _ => by omega) (xa_subR rfl xa_sub0)))))))) ?_
              exact loop4 15 0 0 M1 (by omega) (by omega) (by omega) (by omega) (by omega) hc (by omega) br_s_0 ⟨by omega, by omega⟩ (hc1 c3) (by omega)
      refine hgo.1 24 [9, 22, 100, 136, 156] 100 _ _ _ ?_
      refine And.intro ?_ ?_
      · intro (c1 : (xa_ib 6 1 (M1 60 0)) ≤ x3)
        have eX3 : x3 = xa_ib 6 1 (M 60 0) := by omega
        show xa_C xm_I A h0 _ 231 [(2, 60, 0, 0, 0), (1, 0, (-2147483648), 2147483647, x2)] (xa_up M1 60 20 0) _
        refine ct_tell (n := 0) (by first | rfl | (simp [xa_up]; done) | omega) (by omega) (by omega) ?_
        show post (some (0, 0, (-2147483648), 2147483647, x1)) (xa_up (xa_up (xa_up M1 60 20 0) 74 0 x2) 60 20 1)
        exact k _ _ _ _ hx1 (xm_cor_f (by omega) (xm_cor_a rfl (xm_cor_f (by omega) hc))) xa_up_eq ⟨fun h => by rw [show (xa_up (xa_up (xa_up M1 60 20 0) 74 0 x2) 60 20 1) 74 0 = x2 from (xa_up_ne (by omega)).trans xa_up_eq]; exact hz h, fun h => by rw [show (xa_up (xa_up (xa_up M1 60 20 0) 74 0 x2) 60 20 1) 74 0 = x2 from (xa_up_ne (by omega)).trans xa_up_eq, ← eX3]; exact hb h⟩
      · intro (c1 : x3 < (xa_ib 6 1 (M1 60 0)))
        refine And.intro ?_ ?_
        · intro (c2 : ¬ x1 = 0)
          show xa_C xm_I A h0 _ 231 [(2, 60, 0, 0, 0), (1, 0, (-2147483648), 2147483647, x2)] (xa_up M1 60 20 0) _
          refine ct_tell (n := 0) (by first | rfl | (simp [xa_up]; done) | omega) (by omega) (by omega) ?_
          show post (some (0, 0, (-2147483648), 2147483647, x1)) (xa_up (xa_up (xa_up M1 60 20 0) 74 0 x2) 60 20 1)
          exact k _ _ _ _ hx1 (xm_cor_f (by omega) (xm_cor_a rfl (xm_cor_f (by omega) hc))) xa_up_eq ⟨fun h => by rw [show (xa_up (xa_up (xa_up M1 60 20 0) 74 0 x2) 60 20 1) 74 0 = x2 from (xa_up_ne (by omega)).trans xa_up_eq]; exact hz h, fun h => absurd h c2⟩
        · intro (c2 : x1 = 0)
          refine And.intro ?_ ?_
          · intro (c3 : x2 = (-1))
            show Q 136 [(5, (0, 0, 0, 0, 0)), (4, (0, 0, 1, 1, 1)), (3, (0, 0, 0, 2147483647, x3)), (2, (0, 0, (-2147483648), 2147483647, x2)), (1, (0, 0, (-2147483648), 2147483647, x1)), (0, (2, 60, 0, 0, 0))] [] M1
            refine hgo.2.1 136 _ [(5, (0, 0, 0, 12, 0)), (4, (0, 0, 0, 1, 1)), (3, (0, 0, 0, 2147483646, x3)), (2, (0, 0, (-2147483648), 2147483647, x2)), (1, (0, 0, (-2147483648), 2147483647, x1)), (0, (2, 60, 0, 0, 0))] _ _ (xa_subI rfl rfl (fun _ _ _ _ => by omega) (xa_subI rfl rfl (fun _ _ _ _ => by omega) (xa_subI rfl rfl (fun _ _ _ _ => by omega) (xa_subI rfl rfl (fun _ _ _ _ => by omega) (xa_subI rfl rfl (fun _ _ _ _ => by omega) (xa_subR rfl xa_sub0)))))) ?_
            exact loop3 c2 (hb c2) (Or.inl c3) 13 0 1 M1 (by omega) (by omega) (by omega) hc (by omega) (fun h => absurd h (by decide)) (fun _ i i0 i1 => absurd i1 (by omega)) (by omega)
          · intro (c3 : ¬ x2 = (-1))
            show xa_C xm_I A h0 _ 136 [(0, 0, 0, 2147483647, x3)] M1 _
            refine ct_bitCount ?_
            refine And.intro ?_ ?_
            · intro (c4 : (xa_bc x3) < x2)
              show Q 136 [(5, (0, 0, 0, 0, 0)), (4, (0, 0, 1, 1, 1)), (3, (0, 0, 0, 2147483647, x3)), (2, (0, 0, (-2147483648), 2147483647, x2)), (1, (0, 0, (-2147483648), 2147483647, x1)), (0, (2, 60, 0, 0, 0))] [] M1
              refine hgo.2.1 136 _ [(5, (0, 0, 0, 12, 0)), (4, (0, 0, 0, 1, 1)), (3, (0, 0, 0, 2147483646, x3)), (2, (0, 0, (-2147483648), 2147483647, x2)), (1, (0, 0, (-2147483648), 2147483647, x1)), (0, (2, 60, 0, 0, 0))] _ _ (xa_subI rfl rfl (fun _ _ _ _ => by omega) (xa_subI rfl rfl (fun _ _ _ _ => by omega) (xa_subI rfl rfl (fun _ _ _ _ => by omega) (xa_subI rfl rfl (fun _ _ _ _ => by omega) (xa_subI rfl rfl (fun _ _ _ _ => by omega) (xa_subR rfl xa_sub0)))))) ?_
              exact loop3 c2 (hb c2) (Or.inr c4) 13 0 1 M1 (by omega) (by omega) (by omega) hc (by omega) (fun h => absurd h (by decide)) (fun _ i i0 i1 => absurd i1 (by omega)) (by omega)
            · intro (c4 : x2 ≤ (xa_bc x3))
              show Q 100 [(3, (0, 0, (-2147483648), 2147483647, xa_w32 (x3 + 1))), (2, (0, 0, (-2147483648), 2147483647, x2)), (1, (0, 0, (-2147483648), 2147483647, x1)), (0, (2, 60, 0, 0, 0))] [] M1
              refine hgo.2.1 100 _ [(3, (0, 0, 0, 2147483647, xa_w32 (x3 + 1))), (2, (0, 0, (-2147483648), 2147483647, x2)), (1, (0, 0, (-2147483648), 2147483647, x1)), (0, (2, 60, 0, 0, 0))] _ _ (xa_subI rfl rfl (fun _ _ _ _ => by omega) (xa_subI rfl rfl (fun _ _ _ _ => by omega) (xa_subI rfl rfl (fun _ _ _ _ => by omega) (xa_subR rfl xa_sub0)))) ?_
              exact ih2 (xa_w32 (x3 + 1)) x2 x1 M1 (by omega) hc hx1 (fun h => absurd c2 h) (fun _ => by rw [w3 (by omega)]; exact rw_mb_k c3 c4 (hb c2)) (by have := w3 (by omega); omega) (by omega)
  have loop0 : ∀ (n : Nat) (x2 x1 : Int) (M1 : xa_M), 0 ≤ x2 ∧ x2 ≤ M 60 61 → xm_cor M M1 → x1 = br_b (br_no (M 100) (M 101) (M 102) (M 103) (M 64) (M 65) (M 63) (M 60 0)) x2.toNat → 12 - x2 < (n : Int) → Q 9 [(2, (0, 0, 0, 12, x2)), (1, (0, 0, (-2147483648), 2147483647, x1)), (0, (2, 60, 0, 0, 0))] [] M1 := by
    intro n
    induction n with
    | zero => intro x2 x1 M1 b2 hc hb hms; omega
    | succ n ih0 =>
      intro x2 x1 M1 b2 hc hb hms0
      have ei : ((x2.toNat : Nat) : Int) = x2 := Int.toNat_of_nonneg b2.1
      have hr := br_b_r (P := (br_no (M 100) (M 101) (M 102) (M 103) (M 64) (M 65) (M 63) (M 60 0))) x2.toNat
      rw [← hb] at hr
      have e0 := xm_corf hc 0 (by omega)
      have e6 := xm_corf hc 6 (by omega)
      have e61 := xm_corf hc 61 (by omega)
      have e11 := xm_corf hc 11 (by omega)
      have e15 := xm_corf hc 15 (by omega)
      have e16 := xm_corf hc 16 (by omega)
      have loop1 : ∀ (n : Nat) (x4 x3 : Int) (M1 : xa_M), 0 ≤ x4 ∧ x4 ≤ 14 → 0 ≤ x3 ∧ x3 ≤ 1 → (0 ≤ x2 ∧ x2 ≤ 11) ∧ x2 < M 60 61 → xm_cor M M1 → br_s (br_is (M 100) (M 101) (M 102) (M 103) (M 64) (M 65) (M 63) x2) x4 x3 → x4 ≤ M 60 0 → 14 - x4 < (n : Int) → Q 22 [(4, (0, 0, 0, 14, x4)), (3, (0, 0, 0, 1, x3)), (2, (0, 0, 0, 11, x2)), (1, (0, 0, (-2147483648), 2147483647, x1)), (0, (2, 60, 0, 0, 0))] [] M1 := by
        intro n
        induction n with
        | zero => intro x4 x3 M1 b4 b3 f2 hc hs h4 hms; omega
        | succ n ih1 =>
          intro x4 x3 M1 b4 b3 f2 hc hs h4 hms1
          have e0 := xm_corf hc 0 (by omega)
          have e6 := xm_corf hc 6 (by omega)
          have e61 := xm_corf hc 61 (by omega)
          have e11 := xm_corf hc 11 (by omega)
          have e15 := xm_corf hc 15 (by omega)
          have e16 := xm_corf hc 16 (by omega)
          refine hgo.1 32 [9, 22, 100, 136, 156] 22 _ _ _ ?_
          refine And.intro ?_ ?_
          · intro (c1 : (M1 60 0) ≤ x4)
            refine And.intro ?_ ?_
            · intro (c2 : x3 = 0)
              show Q 9 [(2, (0, 0, 1, 12, x2 + 1)), (1, (0, 0, (-2147483648), 2147483647, xa_ib 4 x1 (xa_ib 6 1 x2))), (4, (0, 0, 0, 14, x4)), (3, (0, 0, 0, 1, x3)), (0, (2, 60, 0, 0, 0))] [] M1
              refine hgo.2.1 9 _ [(2, (0, 0, 0, 12, x2 + 1)), (1, (0, 0, (-2147483648), 2147483647, xa_ib 4 x1 (xa_ib 6 1 x2))), (0, (2, 60, 0, 0, 0))] _ _ (xa_subI rfl rfl (fun _ _ _ _ => by omega) (xa_subI rfl rfl (fun _ _ _ _ => by omega) (xa_subR rfl xa_sub0))) ?_
              have eb : xa_ib 4 x1 (xa_ib 6 1 x2) = br_b (br_no (M 100) (M 101) (M 102) (M 103) (M 64) (M 65) (M 63) (M 60 0)) (x2 + 1).toNat := by
                rw [show (x2 + 1).toNat = x2.toNat + 1 by omega, br_b1 (show (br_no (M 100) (M 101) (M 102) (M 103) (M 64) (M 65) (M 63) (M 60 0)) ((x2.toNat : Nat) : Int) by rw [ei]; exact fun w w0 w1 => br_s_no hs (by omega) w w0 (by omega)), ← hb, ei]
              exact ih0 (x2 + 1) _ M1 (by omega) hc eb (by omega)
            · intro (c2 : ¬ x3 = 0)
              show Q 9 [(2, (0, 0, 1, 12, x2 + 1)), (1, (0, 0, (-2147483648), 2147483647, xa_ib 4 x1 0)), (4, (0, 0, 0, 14, x4)), (3, (0, 0, 0, 1, x3)), (0, (2, 60, 0, 0, 0))] [] M1
              refine hgo.2.1 9 _ [(2, (0, 0, 0, 12, x2 + 1)), (1, (0, 0, (-2147483648), 2147483647, xa_ib 4 x1 0)), (0, (2, 60, 0, 0, 0))] _ _ (xa_subI rfl rfl (fun _ _ _ _ => by omega) (xa_subI rfl rfl (fun _ _ _ _ => by omega) (xa_subR rfl xa_sub0))) ?_
              have eb : xa_ib 4 x1 0 = br_b (br_no (M 100) (M 101) (M 102) (M 103) (M 64) (M 65) (M 63) (M 60 0)) (x2 + 1).toNat := by
                rw [show (x2 + 1).toNat = x2.toNat + 1 by omega, br_b0 (show ¬ (br_no (M 100) (M 101) (M 102) (M 103) (M 64) (M 65) (M 63) (M 60 0)) ((x2.toNat : Nat) : Int) by rw [ei]; exact fun hh => br_s_so hs (by omega) (fun w w0 w1 => hh w w0 (by omega))), ← hb, br_or0 hr.1 hr.2]
              exact ih0 (x2 + 1) _ M1 (by omega) hc eb (by omega)
          · intro (c1 : x4 < (M1 60 0))
            refine And.intro ?_ ?_
            · intro (c3 : ¬ x3 = 0)
              show Q 22 [(4, (0, 0, 1, 15, x4 + 1)), (3, (0, 0, 1, 1, 1)), (2, (0, 0, 0, 11, x2)), (1, (0, 0, (-2147483648), 2147483647, x1)), (0, (2, 60, 0, 0, 0))] [] M1
              refine hgo.2.1 22 _ [(4, (0, 0, 0, 14, x4 + 1)), (3, (0, 0, 0, 1, 1)), (2, (0, 0, 0, 11, x2)), (1, (0, 0, (-2147483648), 2147483647, x1)), (0, (2, 60, 0, 0, 0))] _ _ (xa_subI rfl rfl (fun _ _ _ _ => by omega) (xa_subI rfl rfl (fun _ _ _ _ => by omega) (xa_subI rfl rfl (fun _ _ _ _ => by omega) (xa_subI rfl rfl (fun _ _ _ _ => by omega) (xa_subR rfl xa_sub0))))) ?_
              exact ih1 (x4 + 1) 1 M1 (by omega) (by omega) (by omega) hc (br_s_k hs (by omega)) (by omega) (by omega)
            · intro (c3 : x3 = 0)
              refine And.intro (show 0 ≤ x4 ∧ x4 < 14 by omega) ?_
              refine And.intro (show 0 ≤ x4 ∧ x4 < 14 by omega) ?_
              refine And.intro (show 0 ≤ x4 ∧ x4 < 14 by omega) ?_
              show xa_C xm_I A h0 _ 292 [(2, 60, 0, 0, 0), (0, 0, 0, 11, x2), (0, 0, 0, 9, M1 64 x4), (0, 0, 0, 9, M1 65 x4), (0, 0, 0, 400, M1 63 x4)] M1 _
              refine ct_isLeft (by omega) (by omega) (fun r4 zr4 er4 => ?_)
              refine And.intro ?_ ?_
              · intro (c5 : r4 = 0)
                show Q 22 [(4, (0, 0, 1, 15, x4 + 1)), (3, (0, 0, 0, 0, 0)), (2, (0, 0, 0, 11, x2)), (1, (0, 0, (-2147483648), 2147483647, x1)), (0, (2, 60, 0, 0, 0))] [] M1
                refine hgo.2.1 22 _ [(4, (0, 0, 0, 14, x4 + 1)), (3, (0, 0, 0, 1, 0)), (2, (0, 0, 0, 11, x2)), (1, (0, 0, (-2147483648), 2147483647, x1)), (0, (2, 60, 0, 0, 0))] _ _ (xa_subI rfl rfl (fun _ _ _ _ => by omega) (xa_subI rfl rfl (fun _ _ _ _ => by omega) (xa_subI rfl rfl (fun _ _ _ _ => by omega) (xa_subI rfl rfl (fun _ _ _ _ => by omega) (xa_subR rfl xa_sub0))))) ?_
                exact ih1 (x4 + 1) 0 M1 (by omega) (by omega) (by omega) hc (br_s_n hs (by omega) (fun hh => by have := er4.mpr ((br_isM hc).mpr hh); omega)) (by omega) (by omega)
              · intro (c5 : ¬ r4 = 0)
                show Q 22 [(4, (0, 0, 1, 15, x4 + 1)), (3, (0, 0, 1, 1, 1)), (2, (0, 0, 0, 11, x2)), (1, (0, 0, (-2147483648), 2147483647, x1)), (0, (2, 60, 0, 0, 0))] [] M1
                refine hgo.2.1 22 _ [(4, (0, 0, 0, 14, x4 + 1)), (3, (0, 0, 0, 1, 1)), (2, (0, 0, 0, 11, x2)), (1, (0, 0, (-2147483648), 2147483647, x1)), (0, (2, 60, 0, 0, 0))] _ _ (xa_subI rfl rfl (fun _ _ _ _ => by omega) (xa_subI rfl rfl (fun _ _ _ _ => by omega) (xa_subI rfl rfl (fun _ _ _ _ => by omega) (xa_subI rfl rfl (fun _ _ _ _ => by omega) (xa_subR rfl xa_sub0))))) ?_
                exact ih1 (x4 + 1) 1 M1 (by omega) (by omega) (by omega) hc (br_s_y (by omega) ((br_isM hc).mp (er4.mp (by omega)))) (by omega) (by omega)
      refine hgo.1 13 [9, 22, 100, 136, 156] 9 _ _ _ ?_
      refine And.intro ?_ ?_
      · intro (c1 : (M1 60 61) ≤ x2)
        show Q 100 [(3, (0, 0, 0, 0, 0)), (2, (0, 0, (-1), (-1), (-1))), (1, (0, 0, (-2147483648), 2147483647, x1)), (0, (2, 60, 0, 0, 0))] [] M1
        refine hgo.2.1 100 _ [(3, (0, 0, 0, 2147483647, 0)), (2, (0, 0, (-2147483648), 2147483647, (-1))), (1, (0, 0, (-2147483648), 2147483647, x1)), (0, (2, 60, 0, 0, 0))] _ _ (xa_subI rfl rfl (fun _ _ _ _ => by omega) (xa_subI rfl rfl (fun _ _ _ _ => by omega) (xa_subI rfl rfl (fun _ _ _ _ => by omega) (xa_subR rfl xa_sub0)))) ?_
        exact loop2 ((xa_ib 6 1 (M 60 0)).toNat + 1) 0 (-1) x1 M1 (by omega) hc (by rw [hb, show x2 = M 60 61 by omega]) (fun _ => rfl) (fun _ => rw_mb0) (by have := (rw_pN (N := M 60 0) (by omega)).2; omega) (by omega)
      · intro (c1 : x2 < (M1 60 61))
        show Q 22 [(4, (0, 0, 0, 0, 0)), (3, (0, 0, 0, 0, 0)), (2, (0, 0, 0, 12, x2)), (1, (0, 0, (-2147483648), 2147483647, x1)), (0, (2, 60, 0, 0, 0))] [] M1
        refine hgo.2.1 22 _ [(4, (0, 0, 0, 14, 0)), (3, (0, 0, 0, 1, 0)), (2, (0, 0, 0, 11, x2)), (1, (0, 0, (-2147483648), 2147483647, x1)), (0, (2, 60, 0, 0, 0))] _ _ (xa_subI rfl rfl (fun _ _ _ _ => by omega) (xa_subI rfl rfl (fun _ _ _ _ => by omega) (xa_subI rfl rfl (fun _ _ _ _ => by omega) (xa_subI rfl rfl (fun _ _ _ _ => by omega) (xa_subR rfl xa_sub0))))) ?_
        exact loop1 15 0 0 M1 (by omega) (by omega) (by omega) hc br_s_0 (by omega) (by omega)
  refine hgo.1 12 [9, 22, 100, 136, 156] 0 _ _ _ ?_
  show Q 9 [(2, (0, 0, 0, 0, 0)), (1, (0, 0, 0, 0, 0)), (0, (2, 60, 0, 0, 0))] [] (xa_up M 60 21 0)
  refine hgo.2.1 9 _ [(2, (0, 0, 0, 12, 0)), (1, (0, 0, (-2147483648), 2147483647, 0)), (0, (2, 60, 0, 0, 0))] _ _ (xa_subI rfl rfl (fun _ _ _ _ => by omega) (xa_subI rfl rfl (fun _ _ _ _ => by omega) (xa_subR rfl xa_sub0))) ?_
  exact loop0 13 0 0 (xa_up M 60 21 0) (by omega) (xm_cor_f (by omega) xm_cor_r) rfl (by omega)
theorem rw_p194 (A : Nat → Nat) (cmp : Bool) : iv_pair (rw_J A) A 194 291 [] cmp false := rw_armV (fun W b h as M hJ hM hInv hs hR hz => by
  obtain rfl := iv_sp0 hs
  have b0 := xm_f0 (xa_H_Mok hM)
  have b6 := xm_f6 (xa_H_Mok hM)
  have r1 : iv_num h 1 9 = M 60 0 := hR.1.1
  have r2 : iv_num h 1 10 = M 60 6 := hR.1.2.1
  have r3 : ∀ i, 0 ≤ i → i < 14 → iv_num h 2 i = M 61 i ∧ iv_num h 3 i = M 62 i ∧ iv_num h 5 i = M 64 i ∧ iv_num h 6 i = M 65 i ∧ iv_num h 4 i = M 63 i := hR.1.2.2.1
  have r4 : ∀ i, 0 ≤ i → i < 16 → iv_num h 7 i = M 66 i ∧ iv_num h 8 i = M 67 i := hR.1.2.2.2
  have hS := hR.2
  have hX : lm_X (xj (iv_num h) M) := hR.2.2
  have s1 : iv_num h 43 4 = M 60 61 := hX.2.2.1
  have s4 : ∀ i, 0 ≤ i → i < 12 → iv_num h 44 i = M 100 i := hX.2.2.2.2.2.2.1
  have s5 : ∀ i, 0 ≤ i → i < 12 → iv_num h 45 i = M 101 i := hX.2.2.2.2.2.2.2.1
  have s6 : ∀ i, 0 ≤ i → i < 12 → iv_num h 46 i = M 102 i := hX.2.2.2.2.2.2.2.2.1
  have s7 : ∀ i, 0 ≤ i → i < 12 → iv_num h 47 i = M 103 i := hX.2.2.2.2.2.2.2.2.2.1
  have b61 := xm_f61 (xa_H_Mok hM)
  have e : br_b (br_no (iv_num h 44) (iv_num h 45) (iv_num h 46) (iv_num h 47) (iv_num h 5) (iv_num h 6) (iv_num h 4) (iv_num h 1 9)) (iv_num h 43 4).toNat = br_b (br_no (M 100) (M 101) (M 102) (M 103) (M 64) (M 65) (M 63) (M 60 0)) (M 60 61).toNat := by
    rw [s1]
    refine br_b_e _ (fun k hk => ?_)
    have k1 : (k : Int) < 12 := by omega
    unfold br_no
    rw [r1]
    have is : ∀ w, 0 ≤ w → w < M 60 0 → (br_is (iv_num h 44) (iv_num h 45) (iv_num h 46) (iv_num h 47) (iv_num h 5) (iv_num h 6) (iv_num h 4) (k : Int) w ↔ br_is (M 100) (M 101) (M 102) (M 103) (M 64) (M 65) (M 63) (k : Int) w) := fun w w0 w1 => by
      obtain ⟨-, -, g3, g4, g5⟩ := r3 w w0 (by omega)
      unfold br_is
      rw [s4 _ (by omega) k1, s5 _ (by omega) k1, s6 _ (by omega) k1, s7 _ (by omega) k1, g3, g4, g5]
    exact ⟨fun h w w0 w1 hh => h w w0 w1 ((is w w0 w1).mpr hh), fun h w w0 w1 hh => h w w0 w1 ((is w w0 w1).mp hh)⟩
  have hc := rw_194 (b := b) (A := A) (h0 := h) (d := 54) (M := iv_num h) (post := fun o M1 => ∃ lo hi n, o = some (0, 0, lo, hi, n) ∧ ((n = br_b (br_no (M 100) (M 101) (M 102) (M 103) (M 64) (M 65) (M 63) (M 60 0)) (M 60 61).toNat ∧ ∀ q j, ¬ q = 48 → ¬ q = 49 → M1 q j = iv_num h q j) ∧ M1 48 1 = 1 ∧ rw_s194 (br_is (iv_num h 44) (iv_num h 45) (iv_num h 46) (iv_num h 47) (iv_num h 5) (iv_num h 6) (iv_num h 4)) (iv_num h 1 9) (iv_num h 43 4) n (M1 49))) (by omega) (by omega) (fun r M1 e1 e2 z y9 => ⟨_, _, r, rfl, ⟨e1.trans e, e2⟩, z, y9⟩)
  have hm := fun (h1 : g_H) => rw_m194 (A := A) (h0 := h1) (d := 57) (M := M) (post := fun o M2 => (∃ lo hi n, o = some (0, 0, lo, hi, n) ∧ ((n = br_b (br_no (M 100) (M 101) (M 102) (M 103) (M 64) (M 65) (M 63) (M 60 0)) (M 60 61).toNat ∧ xm_cor M M2) ∧ M2 60 20 = 1 ∧ rw_m194s (br_is (M 100) (M 101) (M 102) (M 103) (M 64) (M 65) (M 63)) (M 60 0) (M 60 61) n (M2 74))) ∧ xm_Inv M2) hInv (fun lo hi r M2 e1 e2 z y9 => ⟨⟨lo, hi, r, rfl, ⟨e1, e2⟩, z, y9⟩, xm_Inv_cor e2 hInv⟩)
  refine ⟨[(2, 0, 0, 0, 0)], [(2, 60, 0, 0, 0)], _, _, ⟨rfl, trivial⟩, ⟨rfl, trivial⟩, fun n n' M1 M2 h1 h2 => ⟨fun _ => h1.1.1.trans h2.1.1.symm, fun x => h2.1.2 104 x (by unfold xm_scr; omega), fun x => h2.1.2 105 x (by unfold xm_scr; omega), xq_lmR hR (fun q j hC hq => h1.1.2 q j (by first | (have t9 := lm_Cq hC; omega) | (unfold lm_C at hC; omega)) (by first | (have t9 := lm_Cq hC; omega) | (unfold lm_C at hC; omega))) h2.1.2, ⟨h1.2.1.trans h2.2.1.symm, by omega, fun i i0 i1 => by
    obtain rfl : i = 0 := by omega
    have y1 := h1.2.2
    have y2 := h2.2.2
    rw [r1, s1, h1.1.1.trans h2.1.1.symm] at y1
    refine rw_s194u (by omega) (fun i w i0 i1 w0 w1 => ?_) y1 y2
    obtain ⟨-, -, g3, g4, g5⟩ := r3 w w0 (by omega)
    unfold br_is
    rw [s4 i i0 (by omega), s5 i i0 (by omega), s6 i i0 (by omega), s7 i i0 (by omega), g3, g4, g5]⟩⟩, hc, hm⟩)
