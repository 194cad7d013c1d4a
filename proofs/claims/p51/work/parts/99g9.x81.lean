set_option maxRecDepth 20000
/-- the first ten months that may be -/
def rw_s185 (mk sm sw : Int → Int) (n : Nat) (m : Int) (V : Int → Int) : Prop := ∀ i : Int, 0 ≤ i → i < m → sk_b mk sm sw i n = 0 → sk_n mk sm sw n i.toNat < 10 → V (sk_n mk sm sw n i.toNat) = i
theorem rw_185m {mk sm sw : Int → Int} {n a : Nat} (k : Nat) : sk_n mk sm sw n a ≤ sk_n mk sm sw n (a + k) := by
  induction k with
  | zero => exact Int.le_refl _
  | succ k ih =>
    by_cases h : sk_b mk sm sw ((a + k : Nat) : Int) n = 0
    · have e := sk_n1 h
      rw [show a + (k + 1) = (a + k) + 1 from rfl]
      omega
    · have e := sk_n0 h
      rw [show a + (k + 1) = (a + k) + 1 from rfl]
      omega
theorem rw_185x {mk sm sw : Int → Int} {n : Nat} : ∀ (m : Nat) (j : Int), 0 ≤ j → j < sk_n mk sm sw n m → ∃ i : Int, (0 ≤ i ∧ i < (m : Int)) ∧ sk_b mk sm sw i n = 0 ∧ sk_n mk sm sw n i.toNat = j := by
  intro m
  induction m with
  | zero => exact fun j j0 j1 => absurd j1 (by show ¬ j < 0; omega)
  | succ m ih =>
    intro j j0 j1
    by_cases c : j < sk_n mk sm sw n m
    · obtain ⟨i, hi, h1, h2⟩ := ih j j0 c
      exact ⟨i, by omega, h1, h2⟩
    · by_cases h : sk_b mk sm sw (m : Int) n = 0
      · have e := sk_n1 h
        exact ⟨(m : Int), by omega, h, by rw [Int.toNat_natCast]; omega⟩
      · have e := sk_n0 h
        omega
theorem rw_185_0 {mk sm sw R : Int → Int} {n : Nat} {p : Int} (h : rw_s185 mk sm sw n p R) (hb : ¬ sk_b mk sm sw p n = 0) : rw_s185 mk sm sw n (p + 1) R := fun q q0 q1 h1 h2 => by
  by_cases e : q = p
  · rw [e] at h1
    exact absurd h1 hb
  · exact h q q0 (by omega) h1 h2
theorem rw_185_2 {mk sm sw R : Int → Int} {n : Nat} {p : Int} (h : rw_s185 mk sm sw n p R) (hb : ¬ sk_n mk sm sw n p.toNat < 10) : rw_s185 mk sm sw n (p + 1) R := fun q q0 q1 h1 h2 => by
  by_cases e : q = p
  · rw [e] at h2
    exact absurd h2 hb
  · exact h q q0 (by omega) h1 h2
theorem rw_185_1 {mk sm sw R R' : Int → Int} {n : Nat} {p : Int} (p0 : 0 ≤ p) (h : rw_s185 mk sm sw n p R) (h1 : R' (sk_n mk sm sw n p.toNat) = p) (h2 : ∀ j : Int, ¬ j = sk_n mk sm sw n p.toNat → R' j = R j) : rw_s185 mk sm sw n (p + 1) R' := fun q q0 q1 hq hc => by
  by_cases e : q = p
  · rw [e]
    exact h1
  · have a := sk_n1 (mk := mk) (sm := sm) (sw := sw) (n := n) (m := q.toNat) (by rw [Int.toNat_of_nonneg q0]; exact hq)
    have b := rw_185m (mk := mk) (sm := sm) (sw := sw) (n := n) (a := q.toNat + 1) (p.toNat - (q.toNat + 1))
    rw [show q.toNat + 1 + (p.toNat - (q.toNat + 1)) = p.toNat by omega] at b
    rw [h2 _ (by omega)]
    exact h q q0 (by omega) hq hc
theorem rw_185e {mk sm sw mk' sm' sw' V : Int → Int} (e : sk_eq mk sm sw mk' sm' sw') {n : Nat} (hn : n ≤ 20) (h : rw_s185 mk sm sw n 223 V) : rw_s185 mk' sm' sw' n 223 V := fun i i0 i1 hb hc => by
  have a := h i i0 i1 (by rw [sk_b_e e n hn]; exact hb) (by rw [sk_n_e e hn]; exact hc)
  rw [sk_n_e e hn] at a
  exact a
theorem rw_185u {mk sm sw : Int → Int} {n : Nat} {r r' : Int} {M1 M2 : xa_M} (e : r = r') (er : r = sk_n mk sm sw n 223) (z1 : rz_m r (M1 48 1)) (z2 : rz_m r' (M2 60 20)) (t1 : rw_s185 mk sm sw n 223 (M1 49)) (t2 : rw_s185 mk sm sw n 223 (M2 74)) : rw_I M1 M2 := by
  have es := rz_mu e z1 z2
  have hz1 : (r ≤ 10 ∧ M1 48 1 = r) ∨ (10 < r ∧ M1 48 1 = 10) := z1
  refine ⟨es, by omega, fun i i0 i1 => ?_⟩
  obtain ⟨p, hp, hb, rfl⟩ := rw_185x (mk := mk) (sm := sm) (sw := sw) (n := n) 223 i i0 (by rw [← er]; omega)
  rw [t1 p hp.1 (by omega) hb (by omega), t2 p hp.1 (by omega) hb (by omega)]
theorem rw_T2 {M : xa_M} {x y w1 w2 : Int} (hz : M 48 1 = 0) (h1 : w1 = 1) : rw_T ((xa_up (xa_up (xa_up (xa_up M 49 (M 48 1) x) 48 1 w1) 49 w1 y) 48 1 w2) 49) [x, y] := by
  subst h1
  rw [hz]
  intro i i0 i1
  rcases (show i = 0 ∨ i = 1 by have i1 : i < 2 := i1; omega) with rfl | rfl
  · exact (xa_up_ne (by omega)).trans ((xa_up_ne (by omega)).trans ((xa_up_ne (by omega)).trans xa_up_eq))
  · exact (xa_up_ne (by omega)).trans xa_up_eq
theorem rw_I2 {M1 M2 : xa_M} {x y : Int} (z1 : M1 48 1 = 2) (z2 : M2 60 20 = 2) (t1 : rw_T (M1 49) [x, y]) (t2 : rw_T (M2 74) [x, y]) : rw_I M1 M2 :=
  ⟨z1.trans z2.symm, by omega, fun i i0 i1 => (t1 i i0 (by show i < 2; omega)).trans (t2 i i0 (by show i < 2; omega)).symm⟩
theorem rw_186 {b : Bool} {A : Nat → Nat} {h0 : g_H} {d : Nat} {M : xa_M} {post : Option xa_V → xa_M → Prop} (hn : 0 ≤ M 38 5 ∧ M 38 5 ≤ 20) (hs : ∀ k, 0 ≤ k → k < 20 → 0 ≤ M 40 k ∧ M 40 k ≤ 9999) (hw : ∀ k, 0 ≤ k → k < 20 → 0 ≤ M 41 k ∧ M 41 k ≤ 1) (hm : ∀ k, 0 ≤ k → k < 223 → 0 ≤ M 39 k ∧ M 39 k ≤ 1) (hz : M 48 1 = 0) (k : ∀ (r : Int) (M1 : xa_M), r = sk_n (M 39) (M 40) (M 41) (M 38 5).toNat 223 → (∀ q j, ¬ q = 48 → ¬ q = 49 → M1 q j = M q j) → rz_m r (M1 48 1) → rw_s185 (M 39) (M 40) (M 41) (M 38 5).toNat 223 (M1 49) → post (some (0, 0, 0, 223, r)) M1) : xa_C (xl_I b) A h0 (d + 3) 186 [(2, 38, 0, 0, 0), (2, 48, 0, 0, 0)] M post := by
  refine xa_meth (Q0 := (4, 1, false, 0, 0, 2)) (by decide +kernel) ⟨rfl, rfl⟩ (full := s_c_186) rfl rfl ?_
  intro hM hv Q hgo
  have loop : ∀ (n : Nat) (i n2 : Int) (M1 : xa_M), 0 ≤ i → i ≤ 223 → 0 ≤ n2 ∧ n2 ≤ i → (∀ q j, ¬ q = 48 → ¬ q = 49 → M1 q j = M q j) → rz_m n2 (M1 48 1) → rw_s185 (M 39) (M 40) (M 41) (M 38 5).toNat i (M1 49) → n2 = sk_n (M 39) (M 40) (M 41) (M 38 5).toNat i.toNat → 223 - i < (n : Int) → Q 4 [(3, (0, 0, 0, 223, i)), (2, (0, 0, 0, 223, n2)), (0, (2, 38, 0, 0, 0)), (1, (2, 48, 0, 0, 0))] [] M1 := by
    intro n
    induction n with
    | zero => intro i n2 M1 i0 i1 i2 hk hz hT hb hms; omega
    | succ n ih =>
      intro i n2 M1 i0 i1 i2 hk hz hT hb hms
      have hz2 : (n2 ≤ 10 ∧ M1 48 1 = n2) ∨ (10 < n2 ∧ M1 48 1 = 10) := hz
      have ei : ((i.toNat : Nat) : Int) = i := Int.toNat_of_nonneg i0
      have f39 : M1 39 = M 39 := funext (fun j => hk 39 j (by decide) (by decide))
      have f40 : M1 40 = M 40 := funext (fun j => hk 40 j (by decide) (by decide))
      have f41 : M1 41 = M 41 := funext (fun j => hk 41 j (by decide) (by decide))
      have f38 : M1 38 = M 38 := funext (fun j => hk 38 j (by decide) (by decide))
      have hn1 : 0 ≤ M1 38 5 ∧ M1 38 5 ≤ 20 := by rw [f38]; exact hn
      have hs1 : ∀ k, 0 ≤ k → k < 20 → 0 ≤ M1 40 k ∧ M1 40 k ≤ 9999 := by rw [f40]; exact hs
      have hw1 : ∀ k, 0 ≤ k → k < 20 → 0 ≤ M1 41 k ∧ M1 41 k ≤ 1 := by rw [f41]; exact hw
      have hm1 : ∀ k, 0 ≤ k → k < 223 → 0 ≤ M1 39 k ∧ M1 39 k ≤ 1 := by rw [f39]; exact hm
      refine hgo.1 22 [4] 4 _ _ _ ?_
      refine And.intro ?_ ?_
      · intro (c1 : 223 ≤ i)
        show post (some (0, 0, 0, 223, n2)) M1
        rw [hb, show i = 223 by omega]
        exact k _ _ rfl hk (by have q := hz; rw [hb, show i = 223 by omega] at q; exact q) (by have q := hT; rw [show i = 223 by omega] at q; exact q)
      · intro (c1 : i < 223)
        show xa_C (xl_I b) A h0 _ 187 [(2, 38, 0, 0, 0), (0, 0, 0, 223, i)] M1 _
        refine cx_187w (show 0 ≤ i ∧ i ≤ 222 by omega) hn1 hs1 hw1 hm1 ?_
        refine And.intro ?_ ?_
        · intro (c2 : ¬ (sk_b (M1 39) (M1 40) (M1 41) i (M1 38 5).toNat) = 0)
          show Q 4 [(3, (0, 0, 1, 224, i + 1)), (2, (0, 0, 0, 223, n2)), (0, (2, 38, 0, 0, 0)), (1, (2, 48, 0, 0, 0))] [] M1
          rw [f39, f40, f41, f38, ← ei] at c2
          have en : n2 = sk_n (M 39) (M 40) (M 41) (M 38 5).toNat (i + 1).toNat := by
            rw [show (i + 1).toNat = i.toNat + 1 by omega, sk_n0 c2, ← hb]
          refine hgo.2.1 4 _ [(3, (0, 0, 0, 223, i + 1)), (2, (0, 0, 0, 223, n2)), (0, (2, 38, 0, 0, 0)), (1, (2, 48, 0, 0, 0))] _ _ (xa_subI rfl rfl (fun _ _ _ _ => by omega) (xa_subI rfl rfl (fun _ _ _ _ => by omega) (xa_subR rfl (xa_subR rfl (xa_sub0))))) ?_
          exact ih (i + 1) _ _ (by omega) (by omega) (by omega) (fun q j h1 h2 => by
            first
              | exact hk q j h1 h2
              | exact (xa_up_ne (fun e => h1 e.1)).trans ((xa_up_ne (fun e => h2 e.1)).trans (hk q j h1 h2))) (by first | exact hz | (unfold rz_m; omega) | (unfold rz_m; rw [xa_up_eq, xa_w32_id (by omega) (by omega)]; omega)) (rw_185_0 hT (by have q := c2; rw [ei] at q; exact q)) en (by omega)
        · intro (c2 : (sk_b (M1 39) (M1 40) (M1 41) i (M1 38 5).toNat) = 0)
          refine And.intro ?_ ?_
          · intro (c3 : 10 ≤ n2)
            show Q 4 [(3, (0, 0, 1, 224, i + 1)), (2, (0, 0, 1, 224, n2 + 1)), (0, (2, 38, 0, 0, 0)), (1, (2, 48, 0, 0, 0))] [] M1
            rw [f39, f40, f41, f38, ← ei] at c2
            have en : n2 + 1 = sk_n (M 39) (M 40) (M 41) (M 38 5).toNat (i + 1).toNat := by
              rw [show (i + 1).toNat = i.toNat + 1 by omega, sk_n1 c2, ← hb]
            refine hgo.2.1 4 _ [(3, (0, 0, 0, 223, i + 1)), (2, (0, 0, 0, 223, n2 + 1)), (0, (2, 38, 0, 0, 0)), (1, (2, 48, 0, 0, 0))] _ _ (xa_subI rfl rfl (fun _ _ _ _ => by omega) (xa_subI rfl rfl (fun _ _ _ _ => by omega) (xa_subR rfl (xa_subR rfl (xa_sub0))))) ?_
            exact ih (i + 1) _ _ (by omega) (by omega) (by omega) (fun q j h1 h2 => by
              first
                | exact hk q j h1 h2
                | exact (xa_up_ne (fun e => h1 e.1)).trans ((xa_up_ne (fun e => h2 e.1)).trans (hk q j h1 h2))) (by first | exact hz | (unfold rz_m; omega) | (unfold rz_m; rw [xa_up_eq, xa_w32_id (by omega) (by omega)]; omega)) (rw_185_2 hT (by rw [← hb]; omega)) en (by omega)
          · intro (c3 : n2 < 10)
            show xa_C (xl_I b) A h0 _ 60 [(2, 48, 0, 0, 0), (1, 0, 0, 223, i)] M1 _
            refine cx_60_48 (show 0 ≤ (M1 48 1) by omega) ?_ ?_
            · intro (i4 : 16 ≤ (M1 48 1))
              show Q 4 [(3, (0, 0, 1, 224, i + 1)), (2, (0, 0, 1, 224, n2 + 1)), (0, (2, 38, 0, 0, 0)), (1, (2, 48, 0, 0, 0))] [] M1
              rw [f39, f40, f41, f38, ← ei] at c2
              have en : n2 + 1 = sk_n (M 39) (M 40) (M 41) (M 38 5).toNat (i + 1).toNat := by
                rw [show (i + 1).toNat = i.toNat + 1 by omega, sk_n1 c2, ← hb]
              refine hgo.2.1 4 _ [(3, (0, 0, 0, 223, i + 1)), (2, (0, 0, 0, 223, n2 + 1)), (0, (2, 38, 0, 0, 0)), (1, (2, 48, 0, 0, 0))] _ _ (xa_subI rfl rfl (fun _ _ _ _ => by omega) (xa_subI rfl rfl (fun _ _ _ _ => by omega) (xa_subR rfl (xa_subR rfl (xa_sub0))))) ?_
              exact ih (i + 1) _ _ (by omega) (by omega) (by omega) (fun q j h1 h2 => by
                first
                  | exact hk q j h1 h2
                  | exact (xa_up_ne (fun e => h1 e.1)).trans ((xa_up_ne (fun e => h2 e.1)).trans (hk q j h1 h2))) (by first | exact hz | (unfold rz_m; omega) | (unfold rz_m; rw [xa_up_eq, xa_w32_id (by omega) (by omega)]; omega)) (by exfalso; omega) en (by omega)
            · intro (i5 : (M1 48 1) < 16)
              show Q 4 [(3, (0, 0, 1, 224, i + 1)), (2, (0, 0, 1, 224, n2 + 1)), (0, (2, 38, 0, 0, 0)), (1, (2, 48, 0, 0, 0))] [] (xa_up (xa_up M1 49 (M1 48 1) i) 48 1 (xa_w32 ((M1 48 1) + 1)))
              rw [f39, f40, f41, f38, ← ei] at c2
              have en : n2 + 1 = sk_n (M 39) (M 40) (M 41) (M 38 5).toNat (i + 1).toNat := by
                rw [show (i + 1).toNat = i.toNat + 1 by omega, sk_n1 c2, ← hb]
              refine hgo.2.1 4 _ [(3, (0, 0, 0, 223, i + 1)), (2, (0, 0, 0, 223, n2 + 1)), (0, (2, 38, 0, 0, 0)), (1, (2, 48, 0, 0, 0))] _ _ (xa_subI rfl rfl (fun _ _ _ _ => by omega) (xa_subI rfl rfl (fun _ _ _ _ => by omega) (xa_subR rfl (xa_subR rfl (xa_sub0))))) ?_
              exact ih (i + 1) _ _ (by omega) (by omega) (by omega) (fun q j h1 h2 => by
                first
                  | exact hk q j h1 h2
                  | exact (xa_up_ne (fun e => h1 e.1)).trans ((xa_up_ne (fun e => h2 e.1)).trans (hk q j h1 h2))) (by first | exact hz | (unfold rz_m; omega) | (unfold rz_m; rw [xa_up_eq, xa_w32_id (by omega) (by omega)]; omega)) (rw_185_1 i0 hT ((xa_up_ne (by omega)).trans (by rw [← hb, show n2 = M1 48 1 by omega]; exact xa_up_eq)) (fun j hj => (xa_up_ne (by omega)).trans (xa_up_ne (by rw [← hb] at hj; omega)))) en (by omega)
  refine hgo.1 9 [4] 0 _ _ _ ?_
  show Q 4 [(3, (0, 0, 0, 0, 0)), (2, (0, 0, 0, 0, 0)), (0, (2, 38, 0, 0, 0)), (1, (2, 48, 0, 0, 0))] [] M
  refine hgo.2.1 4 _ [(3, (0, 0, 0, 223, 0)), (2, (0, 0, 0, 223, 0)), (0, (2, 38, 0, 0, 0)), (1, (2, 48, 0, 0, 0))] _ _ (xa_subI rfl rfl (fun _ _ _ _ => by omega) (xa_subI rfl rfl (fun _ _ _ _ => by omega) (xa_subR rfl (xa_subR rfl (xa_sub0))))) ?_
  exact loop 224 0 0 M (by omega) (by omega) (by omega) (fun _ _ _ _ => rfl) (Or.inl ⟨by decide, hz⟩) (fun i i0 i1 => absurd i1 (by omega)) rfl (by omega)
theorem rw_185 {b : Bool} {A : Nat → Nat} {h0 : g_H} {d : Nat} {M : xa_M} {post : Option xa_V → xa_M → Prop} (hn : 0 ≤ M 38 5 ∧ M 38 5 ≤ 20) (hs : ∀ k, 0 ≤ k → k < 20 → 0 ≤ M 40 k ∧ M 40 k ≤ 9999) (hw : ∀ k, 0 ≤ k → k < 20 → 0 ≤ M 41 k ∧ M 41 k ≤ 1) (hm : ∀ k, 0 ≤ k → k < 223 → 0 ≤ M 39 k ∧ M 39 k ≤ 1) (k : ∀ (r : Int) (M1 : xa_M), r = sk_n (M 39) (M 40) (M 41) (M 38 5).toNat 223 → (∀ q j, ¬ q = 48 → ¬ q = 49 → M1 q j = M q j) → rz_m r (M1 48 1) → rw_s185 (M 39) (M 40) (M 41) (M 38 5).toNat 223 (M1 49) → post (some (0, 0, 0, 223, r)) M1) : xa_C (xl_I b) A h0 (d + 5) 185 [(2, 0, 0, 0, 0)] M post := by
  refine xa_meth (Q0 := (1, 1, false, 0, 0, 11)) (by decide +kernel) ⟨rfl, rfl⟩ (full := s_c_185) rfl rfl ?_
  intro hM hv Q hgo
  refine hgo.1 13 [] 0 _ _ _ ?_
  show xa_C (xl_I b) A h0 _ 59 [(2, 48, 0, 0, 0)] M _
  refine cx_59_48 ?_
  show xa_C (xl_I b) A h0 _ 186 [(2, 38, 0, 0, 0), (2, 48, 0, 0, 0)] (xa_up M 48 1 0) _
  refine rw_186 hn hs hw hm xa_up_eq ?_
  intro r101 M102 (i1 : r101 = sk_n (M 39) (M 40) (M 41) (M 38 5).toNat 223) (i2 : ∀ q j, ¬ q = 48 → ¬ q = 49 → M102 q j = (xa_up M 48 1 0) q j) (z9 : rz_m r101 (M102 48 1)) (tT : rw_s185 (M 39) (M 40) (M 41) (M 38 5).toNat 223 (M102 49))
  show post (some (0, 0, 0, 223, r101)) M102
  exact k _ _ i1 (fun q j h1 h2 => (i2 q j h1 h2).trans (xa_up_ne (fun e => h1 e.1))) z9 tT
theorem rw_m185 {A : Nat → Nat} {h0 : g_H} {d : Nat} {M : xa_M} {post : Option xa_V → xa_M → Prop} (hI : xm_Inv M) (k : ∀ (lo hi r : Int) (M1 : xa_M), r = sk_n (M 96) (M 97) (M 98) (M 60 56).toNat 223 → xm_cor M M1 → rz_m r (M1 60 20) → rw_s185 (M 96) (M 97) (M 98) (M 60 56).toNat 223 (M1 74) → post (some (0, 0, lo, hi, r)) M1) : xa_C xm_I A h0 (d + 2) 286 [(2, 60, 0, 0, 0)] M post := by
  refine xa_meth (Q0 := (3, 1, false, 0, 0, 12)) (by decide +kernel) ⟨rfl, rfl⟩ (full := s_c_286) rfl rfl ?_
  intro hM hv Q hgo
  have loop0 : ∀ (n : Nat) (x2 x1 : Int) (M1 : xa_M), 0 ≤ x2 ∧ x2 ≤ 223 → 0 ≤ x1 ∧ x1 ≤ 223 → xm_cor M M1 → x1 ≤ x2 → rz_m x1 (M1 60 20) → rw_s185 (M 96) (M 97) (M 98) (M 60 56).toNat x2 (M1 74) → x1 = sk_n (M 96) (M 97) (M 98) (M 60 56).toNat x2.toNat → 223 - x2 < (n : Int) → Q 14 [(2, (0, 0, 0, 223, x2)), (1, (0, 0, 0, 223, x1)), (0, (2, 60, 0, 0, 0))] [] M1 := by
    intro n
    induction n with
    | zero => intro x2 x1 M1 b2 b1 hc h12 h20 hT hb hms; omega
    | succ n ih0 =>
      intro x2 x1 M1 b2 b1 hc h12 h20 hT hb hms0
      have hz2 : (x1 ≤ 10 ∧ M1 60 20 = x1) ∨ (10 < x1 ∧ M1 60 20 = 10) := h20
      have ei : ((x2.toNat : Nat) : Int) = x2 := Int.toNat_of_nonneg b2.1
      have f96 : M1 96 = M 96 := funext (fun j => hc 96 j (by omega))
      have f97 : M1 97 = M 97 := funext (fun j => hc 97 j (by omega))
      have f98 : M1 98 = M 98 := funext (fun j => hc 98 j (by omega))
      have f56 : M1 60 56 = M 60 56 := hc 60 56 (by omega)
      have b56 := xm_f56 hM
      refine hgo.2.2 _ _ _ _ (fun hM1 _ => ?_)
      have b20 := xm_f20 hM1
      refine hgo.1 22 [14] 14 _ _ _ ?_
      refine And.intro ?_ ?_
      · intro (c1 : 223 ≤ x2)
        show post (some (0, 0, 0, 223, x1)) M1
        exact k _ _ _ _ (by rw [hb, show x2 = 223 by omega]; rfl) hc h20 (by have q := hT; rw [show x2 = 223 by omega] at q; exact q)
      · intro (c1 : x2 < 223)
        show xa_C xm_I A h0 _ 287 [(2, 60, 0, 0, 0), (0, 0, 0, 223, x2)] M1 _
        refine ct_againstF (by omega) (by omega) (fun r2 hr2 => ?_)
        rw [f96, f97, f98, f56, ← ei] at hr2
        refine And.intro ?_ ?_
        · intro (c3 : r2 = 0)
          refine And.intro ?_ ?_
          · intro (c4 : 10 ≤ x1)
            show Q 14 [(2, (0, 0, 1, 224, x2 + 1)), (1, (0, 0, 1, 224, x1 + 1)), (0, (2, 60, 0, 0, 0))] [] M1
            refine hgo.2.1 14 _ [(2, (0, 0, 0, 223, x2 + 1)), (1, (0, 0, 0, 223, x1 + 1)), (0, (2, 60, 0, 0, 0))] _ _ (xa_subI rfl rfl (fun _ _ _ _ => by omega) (xa_subI rfl rfl (fun _ _ _ _ => by omega) (xa_subR rfl xa_sub0))) ?_
            exact ih0 (x2 + 1) (x1 + 1) M1 (by omega) (by omega) hc (by omega) (by first | exact h20 | (unfold rz_m; omega) | (unfold rz_m; rw [xa_up_eq]; omega)) (rw_185_2 hT (by rw [← hb]; omega)) (by rw [show (x2 + 1).toNat = x2.toNat + 1 by omega, sk_n1 (hr2.symm.trans c3), ← hb]) (by omega)
          · intro (c4 : x1 < 10)
            show xa_C xm_I A h0 _ 231 [(2, 60, 0, 0, 0), (1, 0, 0, 223, x2)] M1 _
            refine ct_tell (n := M1 60 20) (by first | rfl | (simp [xa_up]; done) | omega) (by omega) (by omega) ?_
            show Q 14 [(2, (0, 0, 1, 224, x2 + 1)), (1, (0, 0, 1, 224, x1 + 1)), (0, (2, 60, 0, 0, 0))] [] (xa_up (xa_up M1 74 (M1 60 20) x2) 60 20 ((M1 60 20) + 1))
            refine hgo.2.1 14 _ [(2, (0, 0, 0, 223, x2 + 1)), (1, (0, 0, 0, 223, x1 + 1)), (0, (2, 60, 0, 0, 0))] _ _ (xa_subI rfl rfl (fun _ _ _ _ => by omega) (xa_subI rfl rfl (fun _ _ _ _ => by omega) (xa_subR rfl xa_sub0))) ?_
            exact ih0 (x2 + 1) (x1 + 1) (xa_up (xa_up M1 74 (M1 60 20) x2) 60 20 ((M1 60 20) + 1)) (by omega) (by omega) (xm_cor_f (by omega) (xm_cor_a rfl hc)) (by omega) (by first | exact h20 | (unfold rz_m; omega) | (unfold rz_m; rw [xa_up_eq]; omega)) (rw_185_1 b2.1 hT ((xa_up_ne (by omega)).trans (by rw [← hb, show x1 = M1 60 20 by omega]; exact xa_up_eq)) (fun j hj => (xa_up_ne (by omega)).trans (xa_up_ne (by rw [← hb] at hj; omega)))) (by rw [show (x2 + 1).toNat = x2.toNat + 1 by omega, sk_n1 (hr2.symm.trans c3), ← hb]) (by omega)
        · intro (c3 : ¬ r2 = 0)
          show Q 14 [(2, (0, 0, 1, 224, x2 + 1)), (1, (0, 0, 0, 223, x1)), (0, (2, 60, 0, 0, 0))] [] M1
          refine hgo.2.1 14 _ [(2, (0, 0, 0, 223, x2 + 1)), (1, (0, 0, 0, 223, x1)), (0, (2, 60, 0, 0, 0))] _ _ (xa_subI rfl rfl (fun _ _ _ _ => by omega) (xa_subI rfl rfl (fun _ _ _ _ => by omega) (xa_subR rfl xa_sub0))) ?_
          exact ih0 (x2 + 1) x1 M1 (by omega) (by omega) hc (by omega) (by first | exact h20 | (unfold rz_m; omega) | (unfold rz_m; rw [xa_up_eq]; omega)) (rw_185_0 hT (fun h => c3 (by rw [hr2, ei]; exact h))) (by rw [show (x2 + 1).toNat = x2.toNat + 1 by omega, sk_n0 (fun h => c3 (hr2.trans h)), ← hb]) (by omega)
  refine hgo.1 15 [14] 0 _ _ _ ?_
  show Q 14 [(2, (0, 0, 0, 0, 0)), (1, (0, 0, 0, 0, 0)), (0, (2, 60, 0, 0, 0))] [] (xa_up (xa_up M 60 21 0) 60 20 0)
  refine hgo.2.1 14 _ [(2, (0, 0, 0, 223, 0)), (1, (0, 0, 0, 223, 0)), (0, (2, 60, 0, 0, 0))] _ _ (xa_subI rfl rfl (fun _ _ _ _ => by omega) (xa_subI rfl rfl (fun _ _ _ _ => by omega) (xa_subR rfl xa_sub0))) ?_
  exact loop0 224 0 0 (xa_up (xa_up M 60 21 0) 60 20 0) (by omega) (by omega) (xm_cor_f (by omega) (xm_cor_f (by omega) xm_cor_r)) (by omega) (Or.inl ⟨by decide, xa_up_eq⟩) (fun i i0 i1 => absurd i1 (by omega)) rfl (by omega)
theorem rw_p185 (A : Nat → Nat) (cmp : Bool) : iv_pair (rw_J A) A 185 286 [] cmp false := rw_armU (fun W b h as M hJ hM hInv hs hR hz => by
  obtain rfl := iv_sp0 hs
  have hX : lm_X (xj (iv_num h) M) := hR.2.2
  have hMk := xa_H_Mok hM
  have s1 : iv_num h 38 4 = M 60 55 := hX.2.2.2.1
  have s2 : iv_num h 38 5 = M 60 56 := hX.2.2.2.2.1
  have s3 : iv_num h 38 6 = M 60 59 := hX.2.2.2.2.2.1
  have s4 : ∀ i, 0 ≤ i → i < 223 → iv_num h 39 i = M 96 i := hX.2.2.2.2.2.2.2.2.2.2.1
  have s5 : ∀ i, 0 ≤ i → i < 20 → iv_num h 40 i = M 97 i := hX.2.2.2.2.2.2.2.2.2.2.2.1
  have s6 : ∀ i, 0 ≤ i → i < 20 → iv_num h 41 i = M 98 i := hX.2.2.2.2.2.2.2.2.2.2.2.2.1
  have s7 : ∀ i, 0 ≤ i → i < 8 → iv_num h 42 i = M 99 i := hX.2.2.2.2.2.2.2.2.2.2.2.2.2.1
  have b56 := xm_f56 hMk
  have b59 := xm_f59 hMk
  have hc := rw_185 (b := b) (A := A) (h0 := h) (d := 55) (M := iv_num h) (post := fun o M1 => (∃ lo hi n, o = some (0, 0, lo, hi, n) ∧ ((n = sk_n (M 96) (M 97) (M 98) (M 60 56).toNat 223 ∧ rz_m n (M1 48 1)) ∧ rw_s185 (M 96) (M 97) (M 98) (M 60 56).toNat 223 (M1 49))) ∧ ∀ q j, lm_C q j → q < 60 → M1 q j = iv_num h q j) (by rw [s2]; exact b56) (fun k k0 k1 => by rw [s5 k k0 k1]; exact xm_t97 hMk k k0 k1) (fun k k0 k1 => by rw [s6 k k0 k1]; exact xm_t98 hMk k k0 k1) (fun k k0 k1 => by rw [s4 k k0 k1]; exact xm_t96 hMk k k0 k1) (fun r M1 e hk z zT => ⟨⟨_, _, r, rfl, ⟨by rw [e, s2, sk_n_e ⟨s4, s5, s6⟩ (by omega)], z⟩, rw_185e ⟨s4, s5, s6⟩ (by omega) (by rw [s2] at zT; exact zT)⟩, fun q j hC _ => hk q j (by first | (have t9 := lm_Cq hC; omega) | (unfold lm_C at hC; omega)) (by first | (have t9 := lm_Cq hC; omega) | (unfold lm_C at hC; omega))⟩)
  have hm := fun (h1 : g_H) => rw_m185 (A := A) (h0 := h1) (d := 58) (M := M) (post := fun o M2 => (∃ lo hi n, o = some (0, 0, lo, hi, n) ∧ ((n = sk_n (M 96) (M 97) (M 98) (M 60 56).toNat 223 ∧ rz_m n (M2 60 20)) ∧ rw_s185 (M 96) (M 97) (M 98) (M 60 56).toNat 223 (M2 74))) ∧ xk_U M M2 ∧ xm_Inv M2) hInv (fun lo hi r M1 e hc z zT => ⟨⟨_, _, r, rfl, ⟨e, z⟩, zT⟩, xk_cor hc, xm_Inv_cor hc hInv⟩)
  exact ⟨[(2, 0, 0, 0, 0)], [(2, 60, 0, 0, 0)], fun n s => (n = sk_n (M 96) (M 97) (M 98) (M 60 56).toNat 223 ∧ rz_m n (s 48 1)) ∧ rw_s185 (M 96) (M 97) (M 98) (M 60 56).toNat 223 (s 49), fun n s => (n = sk_n (M 96) (M 97) (M 98) (M 60 56).toNat 223 ∧ rz_m n (s 60 20)) ∧ rw_s185 (M 96) (M 97) (M 98) (M 60 56).toNat 223 (s 74), ⟨rfl, trivial⟩, ⟨rfl, trivial⟩, fun r r' s s' h1 h2 => ⟨fun _ => h1.1.1.trans h2.1.1.symm, rw_185u (h1.1.1.trans h2.1.1.symm) h1.1.1 h1.1.2 h2.1.2 h1.2 h2.2⟩, hc, hm⟩)
theorem rw_189 {b : Bool} {A : Nat → Nat} {h0 : g_H} {d : Nat} {M : xa_M} {post : Option xa_V → xa_M → Prop} (hn : 0 ≤ M 38 5 ∧ M 38 5 ≤ 20) (hs : ∀ k, 0 ≤ k → k < 20 → 0 ≤ M 40 k ∧ M 40 k ≤ 9999) (hw : ∀ k, 0 ≤ k → k < 20 → 0 ≤ M 41 k ∧ M 41 k ≤ 1) (hm : ∀ k, 0 ≤ k → k < 223 → 0 ≤ M 39 k ∧ M 39 k ≤ 1) (hz : M 48 1 = 0) (k : ∀ (r : Int) (M1 : xa_M), r = xa_bc (sk_b (M 39) (M 40) (M 41) (sk_w (M 39) (M 40) (M 41) (M 38 5).toNat 223) (M 38 5).toNat) → (∀ q j, ¬ q = 48 → ¬ q = 49 → M1 q j = M q j) → M1 48 1 = 2 → rw_T (M1 49) [(sk_w (M 39) (M 40) (M 41) (M 38 5).toNat 223), sk_b (M 39) (M 40) (M 41) (sk_w (M 39) (M 40) (M 41) (M 38 5).toNat 223) (M 38 5).toNat] → post (some (0, 0, (-2147483648), 2147483647, r)) M1) : xa_C (xl_I b) A h0 (d + 3) 189 [(2, 38, 0, 0, 0), (2, 48, 0, 0, 0)] M post := by
  refine xa_meth (Q0 := (6, 1, false, 0, 0, 2)) (by decide +kernel) ⟨rfl, rfl⟩ (full := s_c_189) rfl rfl ?_
  intro hM hv Q hgo
  have e9 := xa_w32_id (n := M 48 1 + 1) (by omega) (by omega)
  have e10 : xa_w32 (xa_w32 (M 48 1 + 1) + 1) = 2 := by
    rw [hz]
    decide
  have loop : ∀ (n : Nat) (i bs fw : Int), 1 ≤ i → i ≤ 223 → (0 ≤ bs ∧ bs < i) → bs = sk_w (M 39) (M 40) (M 41) (M 38 5).toNat i.toNat → fw = xa_bc (sk_b (M 39) (M 40) (M 41) bs (M 38 5).toNat) → 223 - i < (n : Int) → Q 14 [(2, (0, 0, 0, 222, bs)), (3, (0, 0, (-2147483648), 2147483647, fw)), (4, (0, 0, 1, 223, i)), (0, (2, 38, 0, 0, 0)), (1, (2, 48, 0, 0, 0))] [] M := by
    intro n
    induction n with
    | zero => intro i bs fw i0 i1 i2 hb hf hms; omega
    | succ n ih =>
      intro i bs fw i0 i1 i2 hb hf hms
      have ei : ((i.toNat : Nat) : Int) = i := Int.toNat_of_nonneg (by omega)
      refine hgo.1 22 [14] 14 _ _ _ ?_
      refine And.intro ?_ ?_
      · intro (c1 : 223 ≤ i)
        show xa_C (xl_I b) A h0 _ 60 [(2, 48, 0, 0, 0), (1, 0, 0, 222, bs)] M _
        refine cx_60_48 (show 0 ≤ (M 48 1) by omega) ?_ ?_
        · intro (i2 : 16 ≤ (M 48 1))
          show xa_C (xl_I b) A h0 _ 187 [(2, 38, 0, 0, 0), (0, 0, 0, 222, bs)] M _
          refine cx_187w (show 0 ≤ bs ∧ bs ≤ 222 by omega) hn hs hw hm ?_
          show xa_C (xl_I b) A h0 _ 60 [(2, 48, 0, 0, 0), (1, 0, (-2147483648), 2147483647, sk_b (M 39) (M 40) (M 41) bs (M 38 5).toNat)] M _
          refine cx_60_48 (show 0 ≤ (M 48 1) by omega) ?_ ?_
          · intro (i3 : 16 ≤ (M 48 1))
            show post (some (0, 0, (-2147483648), 2147483647, fw)) M
            exact k _ _ (by rw [hf, hb, show i = 223 by omega]; rfl) (fun q j h1 h2 => by simp [xa_up, h1, h2]) (by show M 48 1 = 2; omega) (by exfalso; omega)
          · intro (i4 : (M 48 1) < 16)
            show post (some (0, 0, (-2147483648), 2147483647, fw)) (xa_up (xa_up M 49 (M 48 1) (sk_b (M 39) (M 40) (M 41) bs (M 38 5).toNat)) 48 1 (xa_w32 ((M 48 1) + 1)))
            exact k _ _ (by rw [hf, hb, show i = 223 by omega]; rfl) (fun q j h1 h2 => by simp [xa_up, h1, h2]) (by show (xa_w32 ((M 48 1) + 1)) = 2; omega) (by exfalso; omega)
        · intro (i5 : (M 48 1) < 16)
          show xa_C (xl_I b) A h0 _ 187 [(2, 38, 0, 0, 0), (0, 0, 0, 222, bs)] (xa_up (xa_up M 49 (M 48 1) bs) 48 1 (xa_w32 ((M 48 1) + 1))) _
          refine cx_187w (show 0 ≤ bs ∧ bs ≤ 222 by omega) hn hs hw hm ?_
          show xa_C (xl_I b) A h0 _ 60 [(2, 48, 0, 0, 0), (1, 0, (-2147483648), 2147483647, sk_b (M 39) (M 40) (M 41) bs (M 38 5).toNat)] (xa_up (xa_up M 49 (M 48 1) bs) 48 1 (xa_w32 ((M 48 1) + 1))) _
          refine cx_60_48 (show 0 ≤ (xa_w32 ((M 48 1) + 1)) by omega) ?_ ?_
          · intro (i6 : 16 ≤ (xa_w32 ((M 48 1) + 1)))
            show post (some (0, 0, (-2147483648), 2147483647, fw)) (xa_up (xa_up M 49 (M 48 1) bs) 48 1 (xa_w32 ((M 48 1) + 1)))
            exact k _ _ (by rw [hf, hb, show i = 223 by omega]; rfl) (fun q j h1 h2 => by simp [xa_up, h1, h2]) (by show (xa_w32 ((M 48 1) + 1)) = 2; omega) (by exfalso; omega)
          · intro (i7 : (xa_w32 ((M 48 1) + 1)) < 16)
            show post (some (0, 0, (-2147483648), 2147483647, fw)) (xa_up (xa_up (xa_up (xa_up M 49 (M 48 1) bs) 48 1 (xa_w32 ((M 48 1) + 1))) 49 (xa_w32 ((M 48 1) + 1)) (sk_b (M 39) (M 40) (M 41) bs (M 38 5).toNat)) 48 1 (xa_w32 ((xa_w32 ((M 48 1) + 1)) + 1)))
            exact k _ _ (by rw [hf, hb, show i = 223 by omega]; rfl) (fun q j h1 h2 => by simp [xa_up, h1, h2]) (by show (xa_w32 ((xa_w32 ((M 48 1) + 1)) + 1)) = 2; omega) (by
              rw [show sk_w (M 39) (M 40) (M 41) (M 38 5).toNat 223 = bs by rw [hb, show i = 223 by omega]; rfl]
              exact rw_T2 hz (by rw [hz]; decide))
      · intro (c1 : i < 223)
        show xa_C (xl_I b) A h0 _ 187 [(2, 38, 0, 0, 0), (0, 0, 1, 223, i)] M _
        refine cx_187w (show 0 ≤ i ∧ i ≤ 222 by omega) hn hs hw hm ?_
        show xa_C (xl_I b) A h0 _ 136 [(0, 0, (-2147483648), 2147483647, sk_b (M 39) (M 40) (M 41) i (M 38 5).toNat)] M _
        refine ct_bitCount ?_
        refine And.intro ?_ ?_
        · intro (c8 : fw ≤ (xa_bc (sk_b (M 39) (M 40) (M 41) i (M 38 5).toNat)))
          show Q 14 [(4, (0, 0, 2, 224, i + 1)), (5, (0, 0, (-2147483648), 2147483647, xa_bc (sk_b (M 39) (M 40) (M 41) i (M 38 5).toNat))), (2, (0, 0, 0, 222, bs)), (3, (0, 0, (-2147483648), 2147483647, fw)), (0, (2, 38, 0, 0, 0)), (1, (2, 48, 0, 0, 0))] [] M
          have c9 : ¬ (xa_bc (sk_b (M 39) (M 40) (M 41) ((i.toNat : Nat) : Int) (M 38 5).toNat) < xa_bc (sk_b (M 39) (M 40) (M 41) (sk_w (M 39) (M 40) (M 41) (M 38 5).toNat i.toNat) (M 38 5).toNat)) := by
            rw [ei, ← hb, ← hf]
            omega
          have en : bs = sk_w (M 39) (M 40) (M 41) (M 38 5).toNat (i + 1).toNat := by
            rw [show (i + 1).toNat = i.toNat + 1 by omega, sk_w0 (by omega) c9, ← hb]
          refine hgo.2.1 14 _ [(2, (0, 0, 0, 222, bs)), (3, (0, 0, (-2147483648), 2147483647, fw)), (4, (0, 0, 1, 223, i + 1)), (0, (2, 38, 0, 0, 0)), (1, (2, 48, 0, 0, 0))] _ _ (xa_subI rfl rfl (fun _ _ _ _ => by omega) (xa_subI rfl rfl (fun _ _ _ _ => by omega) (xa_subI rfl rfl (fun _ _ _ _ => by omega) (xa_subR rfl (xa_subR rfl (xa_sub0)))))) ?_
          exact ih (i + 1) _ _ (by omega) (by omega) (by omega) en hf (by omega)
        · intro (c8 : (xa_bc (sk_b (M 39) (M 40) (M 41) i (M 38 5).toNat)) < fw)
          show Q 14 [(4, (0, 0, 2, 224, i + 1)), (3, (0, 0, (-2147483648), 2147483647, xa_bc (sk_b (M 39) (M 40) (M 41) i (M 38 5).toNat))), (2, (0, 0, 1, 223, i)), (5, (0, 0, (-2147483648), 2147483647, xa_bc (sk_b (M 39) (M 40) (M 41) i (M 38 5).toNat))), (0, (2, 38, 0, 0, 0)), (1, (2, 48, 0, 0, 0))] [] M
          have c9 : (xa_bc (sk_b (M 39) (M 40) (M 41) ((i.toNat : Nat) : Int) (M 38 5).toNat) < xa_bc (sk_b (M 39) (M 40) (M 41) (sk_w (M 39) (M 40) (M 41) (M 38 5).toNat i.toNat) (M 38 5).toNat)) := by
            rw [ei, ← hb, ← hf]
            omega
          have en : i = sk_w (M 39) (M 40) (M 41) (M 38 5).toNat (i + 1).toNat := by
            rw [show (i + 1).toNat = i.toNat + 1 by omega, sk_w1 (by omega) c9, ei]
          refine hgo.2.1 14 _ [(2, (0, 0, 0, 222, i)), (3, (0, 0, (-2147483648), 2147483647, xa_bc (sk_b (M 39) (M 40) (M 41) i (M 38 5).toNat))), (4, (0, 0, 1, 223, i + 1)), (0, (2, 38, 0, 0, 0)), (1, (2, 48, 0, 0, 0))] _ _ (xa_subI rfl rfl (fun _ _ _ _ => by omega) (xa_subI rfl rfl (fun _ _ _ _ => by omega) (xa_subI rfl rfl (fun _ _ _ _ => by omega) (xa_subR rfl (xa_subR rfl (xa_sub0)))))) ?_
          exact ih (i + 1) _ _ (by omega) (by omega) (by omega) en rfl (by omega)
  refine hgo.1 14 [14] 0 _ _ _ ?_
  show xa_C (xl_I b) A h0 _ 187 [(2, 38, 0, 0, 0), (0, 0, 0, 0, 0)] M _
  refine cx_187w (show 0 ≤ 0 ∧ 0 ≤ 222 by omega) hn hs hw hm ?_
  show xa_C (xl_I b) A h0 _ 136 [(0, 0, (-2147483648), 2147483647, sk_b (M 39) (M 40) (M 41) 0 (M 38 5).toNat)] M _
  refine ct_bitCount ?_
  show Q 14 [(4, (0, 0, 1, 1, 1)), (3, (0, 0, (-2147483648), 2147483647, xa_bc (sk_b (M 39) (M 40) (M 41) 0 (M 38 5).toNat))), (2, (0, 0, 0, 0, 0)), (0, (2, 38, 0, 0, 0)), (1, (2, 48, 0, 0, 0))] [] M
  refine hgo.2.1 14 _ [(2, (0, 0, 0, 222, 0)), (3, (0, 0, (-2147483648), 2147483647, xa_bc (sk_b (M 39) (M 40) (M 41) 0 (M 38 5).toNat))), (4, (0, 0, 1, 223, 1)), (0, (2, 38, 0, 0, 0)), (1, (2, 48, 0, 0, 0))] _ _ (xa_subI rfl rfl (fun _ _ _ _ => by omega) (xa_subI rfl rfl (fun _ _ _ _ => by omega) (xa_subI rfl rfl (fun _ _ _ _ => by omega) (xa_subR rfl (xa_subR rfl (xa_sub0)))))) ?_
  exact loop 224 1 0 _ (by omega) (by omega) (by omega) rfl rfl (by omega)
theorem rw_188 {b : Bool} {A : Nat → Nat} {h0 : g_H} {d : Nat} {M : xa_M} {post : Option xa_V → xa_M → Prop} (hn : 0 ≤ M 38 5 ∧ M 38 5 ≤ 20) (hs : ∀ k, 0 ≤ k → k < 20 → 0 ≤ M 40 k ∧ M 40 k ≤ 9999) (hw : ∀ k, 0 ≤ k → k < 20 → 0 ≤ M 41 k ∧ M 41 k ≤ 1) (hm : ∀ k, 0 ≤ k → k < 223 → 0 ≤ M 39 k ∧ M 39 k ≤ 1) (k : ∀ (r : Int) (M1 : xa_M), r = xa_bc (sk_b (M 39) (M 40) (M 41) (sk_w (M 39) (M 40) (M 41) (M 38 5).toNat 223) (M 38 5).toNat) → (∀ q j, ¬ q = 48 → ¬ q = 49 → M1 q j = M q j) → M1 48 1 = 2 → rw_T (M1 49) [(sk_w (M 39) (M 40) (M 41) (M 38 5).toNat 223), sk_b (M 39) (M 40) (M 41) (sk_w (M 39) (M 40) (M 41) (M 38 5).toNat 223) (M 38 5).toNat] → post (some (0, 0, (-2147483648), 2147483647, r)) M1) : xa_C (xl_I b) A h0 (d + 4) 188 [(2, 0, 0, 0, 0)] M post := by
  refine xa_meth (Q0 := (1, 1, false, 0, 0, 11)) (by decide +kernel) ⟨rfl, rfl⟩ (full := s_c_188) rfl rfl ?_
  intro hM hv Q hgo
  refine hgo.1 13 [] 0 _ _ _ ?_
  show xa_C (xl_I b) A h0 _ 59 [(2, 48, 0, 0, 0)] M _
  refine cx_59_48 ?_
  show xa_C (xl_I b) A h0 _ 189 [(2, 38, 0, 0, 0), (2, 48, 0, 0, 0)] (xa_up M 48 1 0) _
  refine rw_189 hn hs hw hm xa_up_eq ?_
  intro r103 M104 (i1 : r103 = xa_bc (sk_b (M 39) (M 40) (M 41) (sk_w (M 39) (M 40) (M 41) (M 38 5).toNat 223) (M 38 5).toNat)) (i2 : ∀ q j, ¬ q = 48 → ¬ q = 49 → M104 q j = (xa_up M 48 1 0) q j) (z9 : M104 48 1 = 2) (tT : rw_T (M104 49) [(sk_w (M 39) (M 40) (M 41) (M 38 5).toNat 223), sk_b (M 39) (M 40) (M 41) (sk_w (M 39) (M 40) (M 41) (M 38 5).toNat 223) (M 38 5).toNat])
  show post (some (0, 0, (-2147483648), 2147483647, r103)) M104
  exact k _ _ i1 (fun q j h1 h2 => (i2 q j h1 h2).trans (xa_up_ne (fun e => h1 e.1))) z9 tT
theorem rw_m188 {A : Nat → Nat} {h0 : g_H} {d : Nat} {M : xa_M} {post : Option xa_V → xa_M → Prop} (hI : xm_Inv M) (k : ∀ (lo hi r : Int) (M1 : xa_M), r = xa_bc (sk_b (M 96) (M 97) (M 98) (sk_w (M 96) (M 97) (M 98) (M 60 56).toNat 223) (M 60 56).toNat) → xm_iz M M1 → M1 60 20 = 2 → rw_T (M1 74) [(sk_w (M 96) (M 97) (M 98) (M 60 56).toNat 223), sk_b (M 96) (M 97) (M 98) (sk_w (M 96) (M 97) (M 98) (M 60 56).toNat 223) (M 60 56).toNat] → post (some (0, 0, lo, hi, r)) M1) : xa_C xm_I A h0 (d + 3) 288 [(2, 60, 0, 0, 0)] M post := by
  refine xa_meth (Q0 := (3, 1, false, 0, 0, 12)) (by decide +kernel) ⟨rfl, rfl⟩ (full := s_c_288) rfl rfl ?_
  intro hM hv Q hgo
  have loop0 : ∀ (n : Nat) (x2 x1 : Int) (M1 : xa_M), 1 ≤ x2 ∧ x2 ≤ 223 → 0 ≤ x1 ∧ x1 ≤ 222 → xm_iz M M1 → x1 < x2 → x1 = sk_w (M 96) (M 97) (M 98) (M 60 56).toNat x2.toNat → 223 - x2 < (n : Int) → Q 9 [(2, (0, 0, 1, 223, x2)), (1, (0, 0, 0, 222, x1)), (0, (2, 60, 0, 0, 0))] [] M1 := by
    intro n
    induction n with
    | zero => intro x2 x1 M1 b2 b1 hc hlt hb hms; omega
    | succ n ih0 =>
      intro x2 x1 M1 b2 b1 hc hlt hb hms0
      have ei : ((x2.toNat : Nat) : Int) = x2 := Int.toNat_of_nonneg (by omega)
      have f96 : M1 96 = M 96 := funext (fun j => hc 96 j (by unfold xm_izB; rw [show xk_B 96 j = true from rfl, Bool.or_true]))
      have f97 : M1 97 = M 97 := funext (fun j => hc 97 j (by unfold xm_izB; rw [show xk_B 97 j = true from rfl, Bool.or_true]))
      have f98 : M1 98 = M 98 := funext (fun j => hc 98 j (by unfold xm_izB; rw [show xk_B 98 j = true from rfl, Bool.or_true]))
      have f56 : M1 60 56 = M 60 56 := hc 60 56 (by unfold xm_izB; rw [show xk_B 60 56 = true from rfl, Bool.or_true])
      refine hgo.1 25 [9] 9 _ _ _ ?_
      refine And.intro ?_ ?_
      · intro (c1 : 223 ≤ x2)
        show xa_C xm_I A h0 _ 231 [(2, 60, 0, 0, 0), (1, 0, 0, 222, x1)] (xa_up M1 60 20 0) _
        refine ct_tell (n := 0) (by first | rfl | (simp [xa_up]; done) | omega) (by omega) (by omega) ?_
        show xa_C xm_I A h0 _ 287 [(2, 60, 0, 0, 0), (0, 0, 0, 222, x1)] (xa_up (xa_up (xa_up M1 60 20 0) 74 0 x1) 60 20 (0 + 1)) _
        refine ct_againstF (by omega) (by omega) (fun r2 hr2 => ?_)
        show xa_C xm_I A h0 _ 231 [(2, 60, 0, 0, 0), (1, 0, (-2147483648), 2147483647, r2)] (xa_up (xa_up (xa_up M1 60 20 0) 74 0 x1) 60 20 (0 + 1)) _
        refine ct_tell (n := (0 + 1)) (by first | rfl | (simp [xa_up]; done) | omega) (by omega) (by omega) ?_
        show xa_C xm_I A h0 _ 287 [(2, 60, 0, 0, 0), (0, 0, 0, 222, x1)] (xa_up (xa_up (xa_up (xa_up (xa_up M1 60 20 0) 74 0 x1) 60 20 (0 + 1)) 74 (0 + 1) r2) 60 20 ((0 + 1) + 1)) _
        refine ct_againstF (by omega) (by omega) (fun r3 hr3 => ?_)
        have hr2 : r2 = sk_b (M1 96) (M1 97) (M1 98) x1 (M1 60 56).toNat := hr2
        rw [f96, f97, f98, f56] at hr2
        have hr3 : r3 = sk_b (M1 96) (M1 97) (M1 98) x1 (M1 60 56).toNat := hr3
        rw [f96, f97, f98, f56] at hr3
        show xa_C xm_I A h0 _ 136 [(0, 0, (-2147483648), 2147483647, r3)] (xa_up (xa_up (xa_up (xa_up (xa_up M1 60 20 0) 74 0 x1) 60 20 (0 + 1)) 74 (0 + 1) r2) 60 20 ((0 + 1) + 1)) _
        refine ct_bitCount ?_
        show post (some (0, 0, (-2147483648), 2147483647, xa_bc r3)) (xa_up (xa_up (xa_up (xa_up (xa_up M1 60 20 0) 74 0 x1) 60 20 (0 + 1)) 74 (0 + 1) r2) 60 20 ((0 + 1) + 1))
        exact k _ _ _ _ (by rw [hr3, hb, show x2 = 223 by omega]; rfl) (xm_iz_u rfl (xm_iz_u rfl (xm_iz_u rfl (xm_iz_u rfl (xm_iz_u rfl hc))))) (xa_up_eq.trans (by decide)) (by
          rw [show sk_w (M 96) (M 97) (M 98) (M 60 56).toNat 223 = x1 by rw [hb, show x2 = 223 by omega]; rfl]
          intro i i0 i1
          rcases (show i = 0 ∨ i = 1 by have i1 : i < 2 := i1; omega) with rfl | rfl
          · exact (xa_up_ne (by omega)).trans ((xa_up_ne (by omega)).trans ((xa_up_ne (by omega)).trans xa_up_eq))
          · exact ((xa_up_ne (by omega)).trans xa_up_eq).trans hr2)
      · intro (c1 : x2 < 223)
        show xa_C xm_I A h0 _ 287 [(2, 60, 0, 0, 0), (0, 0, 1, 223, x2)] M1 _
        refine ct_againstF (by omega) (by omega) (fun r4 hr4 => ?_)
        rw [f96, f97, f98, f56] at hr4
        show xa_C xm_I A h0 _ 136 [(0, 0, (-2147483648), 2147483647, r4)] M1 _
        refine ct_bitCount ?_
        show xa_C xm_I A h0 _ 287 [(2, 60, 0, 0, 0), (0, 0, 0, 222, x1)] M1 _
        refine ct_againstF (by omega) (by omega) (fun r5 hr5 => ?_)
        rw [f96, f97, f98, f56] at hr5
        show xa_C xm_I A h0 _ 136 [(0, 0, (-2147483648), 2147483647, r5)] M1 _
        refine ct_bitCount ?_
        refine And.intro ?_ ?_
        · intro (c6 : (xa_bc r5) ≤ (xa_bc r4))
          show Q 9 [(2, (0, 0, 2, 224, x2 + 1)), (1, (0, 0, 0, 222, x1)), (0, (2, 60, 0, 0, 0))] [] M1
          refine hgo.2.1 9 _ [(2, (0, 0, 1, 223, x2 + 1)), (1, (0, 0, 0, 222, x1)), (0, (2, 60, 0, 0, 0))] _ _ (xa_subI rfl rfl (fun _ _ _ _ => by omega) (xa_subI rfl rfl (fun _ _ _ _ => by omega) (xa_subR rfl xa_sub0))) ?_
          have c9 : ¬ (xa_bc (sk_b (M 96) (M 97) (M 98) ((x2.toNat : Nat) : Int) (M 60 56).toNat) < xa_bc (sk_b (M 96) (M 97) (M 98) (sk_w (M 96) (M 97) (M 98) (M 60 56).toNat x2.toNat) (M 60 56).toNat)) := by
            rw [ei, ← hb, ← hr4, ← hr5]
            omega
          exact ih0 (x2 + 1) x1 M1 (by omega) (by omega) hc (by omega) (by rw [show (x2 + 1).toNat = x2.toNat + 1 by omega, sk_w0 (by omega) c9, ← hb]) (by omega)
        · intro (c6 : (xa_bc r4) < (xa_bc r5))
          show Q 9 [(2, (0, 0, 2, 224, x2 + 1)), (1, (0, 0, 1, 223, x2)), (0, (2, 60, 0, 0, 0))] [] M1
          refine hgo.2.1 9 _ [(2, (0, 0, 1, 223, x2 + 1)), (1, (0, 0, 0, 222, x2)), (0, (2, 60, 0, 0, 0))] _ _ (xa_subI rfl rfl (fun _ _ _ _ => by omega) (xa_subI rfl rfl (fun _ _ _ _ => by omega) (xa_subR rfl xa_sub0))) ?_
          have c9 : xa_bc (sk_b (M 96) (M 97) (M 98) ((x2.toNat : Nat) : Int) (M 60 56).toNat) < xa_bc (sk_b (M 96) (M 97) (M 98) (sk_w (M 96) (M 97) (M 98) (M 60 56).toNat x2.toNat) (M 60 56).toNat) := by
            rw [ei, ← hb, ← hr4, ← hr5]
            omega
          exact ih0 (x2 + 1) x2 M1 (by omega) (by omega) hc (by omega) (by rw [show (x2 + 1).toNat = x2.toNat + 1 by omega, sk_w1 (by omega) c9, ei]) (by omega)
  refine hgo.1 12 [9] 0 _ _ _ ?_
  show Q 9 [(2, (0, 0, 1, 1, 1)), (1, (0, 0, 0, 0, 0)), (0, (2, 60, 0, 0, 0))] [] (xa_up M 60 21 0)
  refine hgo.2.1 9 _ [(2, (0, 0, 1, 223, 1)), (1, (0, 0, 0, 222, 0)), (0, (2, 60, 0, 0, 0))] _ _ (xa_subI rfl rfl (fun _ _ _ _ => by omega) (xa_subI rfl rfl (fun _ _ _ _ => by omega) (xa_subR rfl xa_sub0))) ?_
  exact loop0 223 1 0 (xa_up M 60 21 0) (by omega) (by omega) (xm_iz_u rfl xm_iz_r) (by omega) rfl (by omega)
theorem rw_p188 (A : Nat → Nat) (cmp : Bool) : iv_pair (rw_J A) A 188 288 [] cmp false := rw_armU (fun W b h as M hJ hM hInv hs hR hz => by
  obtain rfl := iv_sp0 hs
  have hX : lm_X (xj (iv_num h) M) := hR.2.2
  have hMk := xa_H_Mok hM
  have s1 : iv_num h 38 4 = M 60 55 := hX.2.2.2.1
  have s2 : iv_num h 38 5 = M 60 56 := hX.2.2.2.2.1
  have s3 : iv_num h 38 6 = M 60 59 := hX.2.2.2.2.2.1
  have s4 : ∀ i, 0 ≤ i → i < 223 → iv_num h 39 i = M 96 i := hX.2.2.2.2.2.2.2.2.2.2.1
  have s5 : ∀ i, 0 ≤ i → i < 20 → iv_num h 40 i = M 97 i := hX.2.2.2.2.2.2.2.2.2.2.2.1
  have s6 : ∀ i, 0 ≤ i → i < 20 → iv_num h 41 i = M 98 i := hX.2.2.2.2.2.2.2.2.2.2.2.2.1
  have s7 : ∀ i, 0 ≤ i → i < 8 → iv_num h 42 i = M 99 i := hX.2.2.2.2.2.2.2.2.2.2.2.2.2.1
  have b56 := xm_f56 hMk
  have b59 := xm_f59 hMk
  have hc := rw_188 (b := b) (A := A) (h0 := h) (d := 56) (M := iv_num h) (post := fun o M1 => (∃ lo hi n, o = some (0, 0, lo, hi, n) ∧ ((n = xa_bc (sk_b (M 96) (M 97) (M 98) (sk_w (M 96) (M 97) (M 98) (M 60 56).toNat 223) (M 60 56).toNat) ∧ (M1 48 1) = 2) ∧ rw_T (M1 49) [(sk_w (M 96) (M 97) (M 98) (M 60 56).toNat 223), sk_b (M 96) (M 97) (M 98) (sk_w (M 96) (M 97) (M 98) (M 60 56).toNat 223) (M 60 56).toNat])) ∧ ∀ q j, lm_C q j → q < 60 → M1 q j = iv_num h q j) (by rw [s2]; exact b56) (fun k k0 k1 => by rw [s5 k k0 k1]; exact xm_t97 hMk k k0 k1) (fun k k0 k1 => by rw [s6 k k0 k1]; exact xm_t98 hMk k k0 k1) (fun k k0 k1 => by rw [s4 k k0 k1]; exact xm_t96 hMk k k0 k1) (fun r M1 e hk z zT => ⟨⟨_, _, r, rfl, ⟨by rw [e, s2, sk_w_e ⟨s4, s5, s6⟩ (by omega), sk_b_e ⟨s4, s5, s6⟩ _ (by omega)], z⟩, by rw [s2, sk_w_e ⟨s4, s5, s6⟩ (by omega), sk_b_e ⟨s4, s5, s6⟩ _ (by omega)] at zT; exact zT⟩, fun q j hC _ => hk q j (by first | (have t9 := lm_Cq hC; omega) | (unfold lm_C at hC; omega)) (by first | (have t9 := lm_Cq hC; omega) | (unfold lm_C at hC; omega))⟩)
  have hm := fun (h1 : g_H) => rw_m188 (A := A) (h0 := h1) (d := 57) (M := M) (post := fun o M2 => (∃ lo hi n, o = some (0, 0, lo, hi, n) ∧ ((n = xa_bc (sk_b (M 96) (M 97) (M 98) (sk_w (M 96) (M 97) (M 98) (M 60 56).toNat 223) (M 60 56).toNat) ∧ (M2 60 20) = 2) ∧ rw_T (M2 74) [(sk_w (M 96) (M 97) (M 98) (M 60 56).toNat 223), sk_b (M 96) (M 97) (M 98) (sk_w (M 96) (M 97) (M 98) (M 60 56).toNat 223) (M 60 56).toNat])) ∧ xk_U M M2 ∧ xm_Inv M2) hInv (fun lo hi r M1 e hc z zT => ⟨⟨_, _, r, rfl, ⟨e, z⟩, zT⟩, xm_iz_k hc, xm_Inv_is (xm_iz_is hc) hInv⟩)
  exact ⟨[(2, 0, 0, 0, 0)], [(2, 60, 0, 0, 0)], fun n s => (n = xa_bc (sk_b (M 96) (M 97) (M 98) (sk_w (M 96) (M 97) (M 98) (M 60 56).toNat 223) (M 60 56).toNat) ∧ (s 48 1) = 2) ∧ rw_T (s 49) [(sk_w (M 96) (M 97) (M 98) (M 60 56).toNat 223), sk_b (M 96) (M 97) (M 98) (sk_w (M 96) (M 97) (M 98) (M 60 56).toNat 223) (M 60 56).toNat], fun n s => (n = xa_bc (sk_b (M 96) (M 97) (M 98) (sk_w (M 96) (M 97) (M 98) (M 60 56).toNat 223) (M 60 56).toNat) ∧ (s 60 20) = 2) ∧ rw_T (s 74) [(sk_w (M 96) (M 97) (M 98) (M 60 56).toNat 223), sk_b (M 96) (M 97) (M 98) (sk_w (M 96) (M 97) (M 98) (M 60 56).toNat 223) (M 60 56).toNat], ⟨rfl, trivial⟩, ⟨rfl, trivial⟩, fun r r' s s' h1 h2 => ⟨fun _ => h1.1.1.trans h2.1.1.symm, rw_I2 h1.1.2 h2.1.2 h1.2 h2.2⟩, hc, hm⟩)
