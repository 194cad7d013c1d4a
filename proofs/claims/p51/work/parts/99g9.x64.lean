set_option maxRecDepth 20000
/-- one that was seen doesn't stand, if it was set to a month -/
def sk_no (mk sm sw : Int → Int) (m k : Int) : Prop := ¬ mk ((m + sm k) % 223) = sw k
/-- those that don't stand (bits) -/
noncomputable def sk_b (mk sm sw : Int → Int) (m : Int) : Nat → Int
  | 0 => 0
  | k + 1 => @ite _ (sk_no mk sm sw m (k : Int)) (Classical.propDecidable _) (xa_ib 4 (sk_b mk sm sw m k) (xa_ib 6 1 (k : Int))) (sk_b mk sm sw m k)
theorem sk_b1 {mk sm sw : Int → Int} {m : Int} {k : Nat} (h : sk_no mk sm sw m (k : Int)) : sk_b mk sm sw m (k + 1) = xa_ib 4 (sk_b mk sm sw m k) (xa_ib 6 1 (k : Int)) := by
  rw [sk_b]
  exact if_pos h
theorem sk_b0 {mk sm sw : Int → Int} {m : Int} {k : Nat} (h : ¬ sk_no mk sm sw m (k : Int)) : sk_b mk sm sw m (k + 1) = sk_b mk sm sw m k := by
  rw [sk_b]
  exact if_neg h
/-- both hold the same -/
def sk_eq (mk sm sw mk' sm' sw' : Int → Int) : Prop := (∀ i, 0 ≤ i → i < 223 → mk i = mk' i) ∧ (∀ i, 0 ≤ i → i < 20 → sm i = sm' i) ∧ ∀ i, 0 ≤ i → i < 20 → sw i = sw' i
theorem sk_b_e {mk sm sw mk' sm' sw' : Int → Int} (e : sk_eq mk sm sw mk' sm' sw') {m : Int} : ∀ n : Nat, n ≤ 20 → sk_b mk sm sw m n = sk_b mk' sm' sw' m n := by
  intro n
  induction n with
  | zero => intro _; rfl
  | succ k ih =>
    intro hk
    have hn : sk_no mk sm sw m (k : Int) ↔ sk_no mk' sm' sw' m (k : Int) := by
      unfold sk_no
      rw [e.2.1 k (by omega) (by omega), e.2.2 k (by omega) (by omega), e.1 _ (Int.emod_nonneg _ (by decide)) (Int.emod_lt_of_pos _ (by decide))]
    by_cases h : sk_no mk sm sw m (k : Int)
    · rw [sk_b1 h, sk_b1 (hn.mp h), ih (by omega)]
    · rw [sk_b0 h, sk_b0 (fun h' => h (hn.mpr h')), ih (by omega)]
theorem sk_b_r {mk sm sw : Int → Int} {m : Int} : ∀ n : Nat, -2147483648 ≤ sk_b mk sm sw m n ∧ sk_b mk sm sw m n ≤ 2147483647 := by
  intro n
  induction n with
  | zero => exact ⟨by show (-2147483648 : Int) ≤ 0; decide, by show (0 : Int) ≤ 2147483647; decide⟩
  | succ k ih =>
    by_cases h : sk_no mk sm sw m (k : Int)
    · rw [sk_b1 h]
      generalize sk_b mk sm sw m k = x
      generalize xa_ib 6 1 (k : Int) = y
      have h1 := Int32.le_toInt (s_fib 4 (Int32.ofInt x) (Int32.ofInt y))
      have h2 := Int32.toInt_lt (s_fib 4 (Int32.ofInt x) (Int32.ofInt y))
      unfold xa_ib
      exact ⟨h1, by omega⟩
    · rw [sk_b0 h]
      exact ih
theorem xa_or0 {a : Int} (h1 : -2147483648 ≤ a) (h2 : a ≤ 2147483647) : xa_ib 4 a 0 = a := by
  show (Int32.ofInt a ||| Int32.ofInt 0).toInt = a
  rw [show Int32.ofInt 0 = 0 from rfl, Int32.or_zero]
  exact Int32.toInt_ofInt_of_le (by omega) (by omega)
/-- months in which all stand -/
noncomputable def sk_n (mk sm sw : Int → Int) (n : Nat) : Nat → Int
  | 0 => 0
  | m + 1 => if sk_b mk sm sw (m : Int) n = 0 then sk_n mk sm sw n m + 1 else sk_n mk sm sw n m
theorem sk_n_e {mk sm sw mk' sm' sw' : Int → Int} (e : sk_eq mk sm sw mk' sm' sw') {n : Nat} (hn : n ≤ 20) : ∀ m : Nat, sk_n mk sm sw n m = sk_n mk' sm' sw' n m := by
  intro m
  induction m with
  | zero => rfl
  | succ m ih => rw [sk_n, sk_n, sk_b_e e n hn, ih]
theorem sk_n1 {mk sm sw : Int → Int} {n m : Nat} (h : sk_b mk sm sw (m : Int) n = 0) : sk_n mk sm sw n (m + 1) = sk_n mk sm sw n m + 1 := by
  rw [sk_n]
  exact if_pos h
theorem sk_n0 {mk sm sw : Int → Int} {n m : Nat} (h : ¬ sk_b mk sm sw (m : Int) n = 0) : sk_n mk sm sw n (m + 1) = sk_n mk sm sw n m := by
  rw [sk_n]
  exact if_neg h
/-- the month (of the first m) in which the fewest don't stand -/
noncomputable def sk_w (mk sm sw : Int → Int) (n : Nat) : Nat → Int
  | 0 => 0
  | m + 1 => if m = 0 then 0 else if xa_bc (sk_b mk sm sw (m : Int) n) < xa_bc (sk_b mk sm sw (sk_w mk sm sw n m) n) then (m : Int) else sk_w mk sm sw n m
theorem sk_w_e {mk sm sw mk' sm' sw' : Int → Int} (e : sk_eq mk sm sw mk' sm' sw') {n : Nat} (hn : n ≤ 20) : ∀ m : Nat, sk_w mk sm sw n m = sk_w mk' sm' sw' n m := by
  intro m
  induction m with
  | zero => rfl
  | succ m ih => rw [sk_w, sk_w, ih, sk_b_e e n hn, sk_b_e e n hn]
theorem sk_w1 {mk sm sw : Int → Int} {n m : Nat} (h0 : ¬ m = 0) (h : xa_bc (sk_b mk sm sw (m : Int) n) < xa_bc (sk_b mk sm sw (sk_w mk sm sw n m) n)) : sk_w mk sm sw n (m + 1) = m := by
  rw [sk_w, if_neg h0]
  exact if_pos h
theorem sk_w0 {mk sm sw : Int → Int} {n m : Nat} (h0 : ¬ m = 0) (h : ¬ xa_bc (sk_b mk sm sw (m : Int) n) < xa_bc (sk_b mk sm sw (sk_w mk sm sw n m) n)) : sk_w mk sm sw n (m + 1) = sk_w mk sm sw n m := by
  rw [sk_w, if_neg h0]
  exact if_neg h
theorem cx_23_40 {b : Bool} {A : Nat → Nat} {h0 : g_H} {d : Nat} {M : xa_M} {post : Option xa_V → xa_M → Prop} {l1 u1 : Int} {i : Int} (h1 : 0 ≤ i ∧ i < 20) (k1 : post (some (0, 0, (-2147483648), 2147483647, M 40 i)) M) : xa_C (xl_I b) A h0 (d + 1) 23 [(2, 40, 0, 0, 0), (0, 0, l1, u1, i)] M post := by
  refine xa_C_arg [(2, 40, 0, 0, 0), (0, 0, (-2147483648), 2147483647, i)] (xa_svR (xa_svI (fun _ _ _ _ => by omega) xa_sv0)) ?_
  refine xa_meth (Q0 := (2, 1, false, 0, 0, 11)) (by decide +kernel) ⟨rfl, rfl⟩ (full := s_c_23) rfl rfl ?_
  intro hM hv Q hgo
  refine hgo.1 15 [] 0 _ _ _ ?_
  refine And.intro ?_ ?_
  · intro (c1 : i < 0)
    show post (some (0, 0, 0, 0, 0)) M
    exact absurd h1 (by omega)
  · intro (c1 : 0 ≤ i)
    refine And.intro ?_ ?_
    · intro (c2 : 20 ≤ i)
      show post (some (0, 0, 0, 0, 0)) M
      exact absurd h1 (by omega)
    · intro (c2 : i < 20)
      refine And.intro (show 0 ≤ i ∧ i < 20 by omega) ?_
      show post (some (0, 0, (-2147483648), 2147483647, M 40 i)) M
      exact k1
theorem cx_187w {b : Bool} {A : Nat → Nat} {h0 : g_H} {d : Nat} {M : xa_M} {post : Option xa_V → xa_M → Prop} {l1 u1 v : Int} (h1 : 0 ≤ v ∧ v ≤ 222) (hn : 0 ≤ M 38 5 ∧ M 38 5 ≤ 20) (hs : ∀ k, 0 ≤ k → k < 20 → 0 ≤ M 40 k ∧ M 40 k ≤ 9999) (hw : ∀ k, 0 ≤ k → k < 20 → 0 ≤ M 41 k ∧ M 41 k ≤ 1) (hm : ∀ k, 0 ≤ k → k < 223 → 0 ≤ M 39 k ∧ M 39 k ≤ 1) (k : post (some (0, 0, (-2147483648), 2147483647, sk_b (M 39) (M 40) (M 41) v (M 38 5).toNat)) M) : xa_C (xl_I b) A h0 (d + 2) 187 [(2, 38, 0, 0, 0), (0, 0, l1, u1, v)] M post := by
  refine xa_C_arg [(2, 38, 0, 0, 0), (0, 0, 0, 222, v)] (xa_svR (xa_svI (fun _ _ _ _ => by omega) xa_sv0)) ?_
  refine xa_meth (Q0 := (6, 1, false, 0, 0, 2)) (by decide +kernel) ⟨rfl, rfl⟩ (full := s_c_187) rfl rfl ?_
  intro hM hv Q hgo
  have loop : ∀ (n : Nat) (i bb : Int), 0 ≤ i → i ≤ M 38 5 → bb = sk_b (M 39) (M 40) (M 41) v i.toNat → 20 - i < (n : Int) → Q 4 [(3, (0, 0, 0, 20, i)), (2, (0, 0, (-2147483648), 2147483647, bb)), (0, (2, 38, 0, 0, 0)), (1, (0, 0, 0, 222, v))] [] M := by
    intro n
    induction n with
    | zero => intro i bb i0 i1 hb hms; omega
    | succ n ih =>
      intro i bb i0 i1 hb hms
      have ei : ((i.toNat : Nat) : Int) = i := Int.toNat_of_nonneg i0
      have hr := sk_b_r (mk := M 39) (sm := M 40) (sw := M 41) (m := v) i.toNat
      rw [← hb] at hr
      have hs' := hs i i0
      have hw' := hw i i0
      have et : i < 20 → (xa_w32 (v + (M 40 i))).tmod 223 = (v + M 40 i) % 223 := fun h => by
        have := hs' h
        rw [xa_w32_id (by omega) (by omega), Int.tmod_eq_emod_of_nonneg (by omega)]
      have e0 : 0 ≤ (v + M 40 i) % 223 := Int.emod_nonneg _ (by decide)
      have e1 : (v + M 40 i) % 223 < 223 := Int.emod_lt_of_pos _ (by decide)
      have hm' := hm _ e0 e1
      refine hgo.1 52 [4] 4 _ _ _ ?_
      refine And.intro ?_ ?_
      · intro (c1 : (M 38 5) ≤ i)
        show post (some (0, 0, (-2147483648), 2147483647, bb)) M
        rw [hb, show i = M 38 5 by omega]
        exact k
      · intro (c1 : i < (M 38 5))
        refine And.intro ?_ ?_
        · intro (c2 : 20 ≤ i)
          show post (some (0, 0, (-2147483648), 2147483647, bb)) M
          rw [hb, show i = M 38 5 by omega]
          exact k
        · intro (c2 : i < 20)
          show xa_C (xl_I b) A h0 _ 23 [(2, 40, 0, 0, 0), (0, 0, 0, 20, i)] M _
          refine cx_23_40 (show 0 ≤ i ∧ i < 20 by omega) ?_
          refine And.intro ?_ ?_
          · intro (c3 : ((xa_w32 (v + (M 40 i))).tmod 223) < 0)
            refine And.intro (show 0 ≤ i ∧ i < 20 by omega) ?_
            refine And.intro ?_ ?_
            · intro (c4 : ¬ 0 = (M 41 i))
              show Q 4 [(3, (0, 0, 1, 21, i + 1)), (2, (0, 0, (-2147483648), 2147483647, xa_ib 4 bb (xa_ib 6 1 i))), (5, (0, 0, 0, 0, 0)), (4, (0, 0, (-2147483648), 2147483647, (xa_w32 (v + (M 40 i))).tmod 223)), (0, (2, 38, 0, 0, 0)), (1, (0, 0, 0, 222, v))] [] M
              rw [et (by omega)] at c3
              exact absurd e0 (by omega)
            · intro (c4 : 0 = (M 41 i))
              show Q 4 [(3, (0, 0, 1, 21, i + 1)), (2, (0, 0, (-2147483648), 2147483647, xa_ib 4 bb 0)), (5, (0, 0, 0, 0, 0)), (4, (0, 0, (-2147483648), 2147483647, (xa_w32 (v + (M 40 i))).tmod 223)), (0, (2, 38, 0, 0, 0)), (1, (0, 0, 0, 222, v))] [] M
              rw [et (by omega)] at c3
              exact absurd e0 (by omega)
          · intro (c3 : 0 ≤ ((xa_w32 (v + (M 40 i))).tmod 223))
            refine And.intro ?_ ?_
            · intro (c5 : 223 ≤ ((xa_w32 (v + (M 40 i))).tmod 223))
              refine And.intro (show 0 ≤ i ∧ i < 20 by omega) ?_
              refine And.intro ?_ ?_
              · intro (c6 : ¬ 0 = (M 41 i))
                show Q 4 [(3, (0, 0, 1, 21, i + 1)), (2, (0, 0, (-2147483648), 2147483647, xa_ib 4 bb (xa_ib 6 1 i))), (5, (0, 0, 0, 0, 0)), (4, (0, 0, (-2147483648), 2147483647, (xa_w32 (v + (M 40 i))).tmod 223)), (0, (2, 38, 0, 0, 0)), (1, (0, 0, 0, 222, v))] [] M
                rw [et (by omega)] at c3 c5
                exact absurd e1 (by omega)
              · intro (c6 : 0 = (M 41 i))
                show Q 4 [(3, (0, 0, 1, 21, i + 1)), (2, (0, 0, (-2147483648), 2147483647, xa_ib 4 bb 0)), (5, (0, 0, 0, 0, 0)), (4, (0, 0, (-2147483648), 2147483647, (xa_w32 (v + (M 40 i))).tmod 223)), (0, (2, 38, 0, 0, 0)), (1, (0, 0, 0, 222, v))] [] M
                rw [et (by omega)] at c3 c5
                exact absurd e1 (by omega)
            · intro (c5 : ((xa_w32 (v + (M 40 i))).tmod 223) < 223)
              refine And.intro (show 0 ≤ ((xa_w32 (v + (M 40 i))).tmod 223) ∧ ((xa_w32 (v + (M 40 i))).tmod 223) < 223 by omega) ?_
              refine And.intro ?_ ?_
              · intro (c7 : (M 39 ((xa_w32 (v + (M 40 i))).tmod 223)) = 0)
                refine And.intro (show 0 ≤ i ∧ i < 20 by omega) ?_
                refine And.intro ?_ ?_
                · intro (c8 : ¬ 0 = (M 41 i))
                  show Q 4 [(3, (0, 0, 1, 21, i + 1)), (2, (0, 0, (-2147483648), 2147483647, xa_ib 4 bb (xa_ib 6 1 i))), (5, (0, 0, 0, 0, 0)), (4, (0, 0, (-2147483648), 2147483647, (xa_w32 (v + (M 40 i))).tmod 223)), (0, (2, 38, 0, 0, 0)), (1, (0, 0, 0, 222, v))] [] M
                  rw [et (by omega)] at c3 c5 c7
                  have eb : xa_ib 4 bb (xa_ib 6 1 i) = sk_b (M 39) (M 40) (M 41) v (i + 1).toNat := by
                    rw [show (i + 1).toNat = i.toNat + 1 by omega, sk_b1 (show sk_no (M 39) (M 40) (M 41) v ((i.toNat : Nat) : Int) by unfold sk_no; rw [ei]; omega), ← hb, ei]
                  refine hgo.2.1 4 _ [(3, (0, 0, 0, 20, i + 1)), (2, (0, 0, (-2147483648), 2147483647, xa_ib 4 bb (xa_ib 6 1 i))), (0, (2, 38, 0, 0, 0)), (1, (0, 0, 0, 222, v))] _ _ (xa_subI rfl rfl (fun _ _ _ _ => by omega) (xa_subI rfl rfl (fun _ _ _ _ => by omega) (xa_subR rfl (xa_subI rfl rfl (fun _ _ _ _ => by omega) (xa_sub0))))) ?_
                  exact ih (i + 1) _ (by omega) (by omega) eb (by omega)
                · intro (c8 : 0 = (M 41 i))
                  show Q 4 [(3, (0, 0, 1, 21, i + 1)), (2, (0, 0, (-2147483648), 2147483647, xa_ib 4 bb 0)), (5, (0, 0, 0, 0, 0)), (4, (0, 0, (-2147483648), 2147483647, (xa_w32 (v + (M 40 i))).tmod 223)), (0, (2, 38, 0, 0, 0)), (1, (0, 0, 0, 222, v))] [] M
                  rw [et (by omega)] at c3 c5 c7
                  have eb : xa_ib 4 bb 0 = sk_b (M 39) (M 40) (M 41) v (i + 1).toNat := by
                    rw [show (i + 1).toNat = i.toNat + 1 by omega, sk_b0 (show ¬ sk_no (M 39) (M 40) (M 41) v ((i.toNat : Nat) : Int) by unfold sk_no; rw [ei]; omega), ← hb, xa_or0 hr.1 hr.2]
                  refine hgo.2.1 4 _ [(3, (0, 0, 0, 20, i + 1)), (2, (0, 0, (-2147483648), 2147483647, xa_ib 4 bb 0)), (0, (2, 38, 0, 0, 0)), (1, (0, 0, 0, 222, v))] _ _ (xa_subI rfl rfl (fun _ _ _ _ => by omega) (xa_subI rfl rfl (fun _ _ _ _ => by omega) (xa_subR rfl (xa_subI rfl rfl (fun _ _ _ _ => by omega) (xa_sub0))))) ?_
                  exact ih (i + 1) _ (by omega) (by omega) eb (by omega)
              · intro (c7 : ¬ (M 39 ((xa_w32 (v + (M 40 i))).tmod 223)) = 0)
                refine And.intro (show 0 ≤ i ∧ i < 20 by omega) ?_
                refine And.intro ?_ ?_
                · intro (c9 : ¬ 1 = (M 41 i))
                  show Q 4 [(3, (0, 0, 1, 21, i + 1)), (2, (0, 0, (-2147483648), 2147483647, xa_ib 4 bb (xa_ib 6 1 i))), (5, (0, 0, 1, 1, 1)), (4, (0, 0, (-2147483648), 2147483647, (xa_w32 (v + (M 40 i))).tmod 223)), (0, (2, 38, 0, 0, 0)), (1, (0, 0, 0, 222, v))] [] M
                  rw [et (by omega)] at c3 c5 c7
                  have eb : xa_ib 4 bb (xa_ib 6 1 i) = sk_b (M 39) (M 40) (M 41) v (i + 1).toNat := by
                    rw [show (i + 1).toNat = i.toNat + 1 by omega, sk_b1 (show sk_no (M 39) (M 40) (M 41) v ((i.toNat : Nat) : Int) by unfold sk_no; rw [ei]; omega), ← hb, ei]
                  refine hgo.2.1 4 _ [(3, (0, 0, 0, 20, i + 1)), (2, (0, 0, (-2147483648), 2147483647, xa_ib 4 bb (xa_ib 6 1 i))), (0, (2, 38, 0, 0, 0)), (1, (0, 0, 0, 222, v))] _ _ (xa_subI rfl rfl (fun _ _ _ _ => by omega) (xa_subI rfl rfl (fun _ _ _ _ => by omega) (xa_subR rfl (xa_subI rfl rfl (fun _ _ _ _ => by omega) (xa_sub0))))) ?_
                  exact ih (i + 1) _ (by omega) (by omega) eb (by omega)
                · intro (c9 : 1 = (M 41 i))
                  show Q 4 [(3, (0, 0, 1, 21, i + 1)), (2, (0, 0, (-2147483648), 2147483647, xa_ib 4 bb 0)), (5, (0, 0, 1, 1, 1)), (4, (0, 0, (-2147483648), 2147483647, (xa_w32 (v + (M 40 i))).tmod 223)), (0, (2, 38, 0, 0, 0)), (1, (0, 0, 0, 222, v))] [] M
                  rw [et (by omega)] at c3 c5 c7
                  have eb : xa_ib 4 bb 0 = sk_b (M 39) (M 40) (M 41) v (i + 1).toNat := by
                    rw [show (i + 1).toNat = i.toNat + 1 by omega, sk_b0 (show ¬ sk_no (M 39) (M 40) (M 41) v ((i.toNat : Nat) : Int) by unfold sk_no; rw [ei]; omega), ← hb, xa_or0 hr.1 hr.2]
                  refine hgo.2.1 4 _ [(3, (0, 0, 0, 20, i + 1)), (2, (0, 0, (-2147483648), 2147483647, xa_ib 4 bb 0)), (0, (2, 38, 0, 0, 0)), (1, (0, 0, 0, 222, v))] _ _ (xa_subI rfl rfl (fun _ _ _ _ => by omega) (xa_subI rfl rfl (fun _ _ _ _ => by omega) (xa_subR rfl (xa_subI rfl rfl (fun _ _ _ _ => by omega) (xa_sub0))))) ?_
                  exact ih (i + 1) _ (by omega) (by omega) eb (by omega)
  refine hgo.1 9 [4] 0 _ _ _ ?_
  show Q 4 [(3, (0, 0, 0, 0, 0)), (2, (0, 0, 0, 0, 0)), (0, (2, 38, 0, 0, 0)), (1, (0, 0, 0, 222, v))] [] M
  refine hgo.2.1 4 _ [(3, (0, 0, 0, 20, 0)), (2, (0, 0, (-2147483648), 2147483647, 0)), (0, (2, 38, 0, 0, 0)), (1, (0, 0, 0, 222, v))] _ _ (xa_subI rfl rfl (fun _ _ _ _ => by omega) (xa_subI rfl rfl (fun _ _ _ _ => by omega) (xa_subR rfl (xa_subI rfl rfl (fun _ _ _ _ => by omega) (xa_sub0))))) ?_
  exact loop 21 0 0 (by omega) (by omega) rfl (by omega)
theorem ct_againstF {A : Nat → Nat} {h0 : g_H} {d : Nat} {M : xa_M} {post : Option xa_V → xa_M → Prop} {l1 u1 : Int} {a : Int} (ha0 : 0 ≤ a) (ha1 : a ≤ 222) (k : ∀ r : Int, r = sk_b (M 96) (M 97) (M 98) a (M 60 56).toNat → post (some (0, 0, -2147483648, 2147483647, r)) M) : xa_C xm_I A h0 (d + 1) 287 [(2, 60, 0, 0, 0), (0, 0, l1, u1, a)] M post := by
  refine xa_C_arg [(2, 60, 0, 0, 0), (0, 0, 0, 222, a)] (xa_svR (xa_svI (fun _ _ _ _ => by omega) xa_sv0)) ?_
  refine xa_meth (Q0 := (4, 1, false, 0, 0, 12)) (by decide +kernel) ⟨rfl, rfl⟩ (full := s_c_287) rfl rfl ?_
  intro hM hv Q hgo
  have b56 := xm_f56 hM
  have loop0 : ∀ (n : Nat) (x3 x2 : Int), 0 ≤ x3 ∧ x3 ≤ M 60 56 → x2 = sk_b (M 96) (M 97) (M 98) a x3.toNat → 20 - x3 < (n : Int) → Q 4 [(3, (0, 0, 0, 20, x3)), (2, (0, 0, (-2147483648), 2147483647, x2)), (1, (0, 0, 0, 222, a)), (0, (2, 60, 0, 0, 0))] [] M := by
    intro n
    induction n with
    | zero => intro x3 x2 b3 hb hms; omega
    | succ n ih0 =>
      intro x3 x2 b3 hb hms0
      have ei : ((x3.toNat : Nat) : Int) = x3 := Int.toNat_of_nonneg b3.1
      refine hgo.1 33 [4] 4 _ _ _ ?_
      refine And.intro ?_ ?_
      · intro (c1 : (M 60 56) ≤ x3)
        show post (some (0, 0, (-2147483648), 2147483647, x2)) M
        exact k _ (by rw [hb, show x3 = M 60 56 by omega])
      · intro (c1 : x3 < (M 60 56))
        refine And.intro (show 0 ≤ x3 ∧ x3 < 20 by omega) ?_
        refine And.intro (show 0 ≤ x3 ∧ x3 < 20 by omega) ?_
        refine And.intro ?_ ?_
        · intro (c2 : (M 96 ((a + (M 97 x3)) % 223)) = (M 98 x3))
          show Q 4 [(3, (0, 0, 1, 21, x3 + 1)), (2, (0, 0, (-2147483648), 2147483647, x2)), (1, (0, 0, 0, 222, a)), (0, (2, 60, 0, 0, 0))] [] M
          refine hgo.2.1 4 _ [(3, (0, 0, 0, 20, x3 + 1)), (2, (0, 0, (-2147483648), 2147483647, x2)), (1, (0, 0, 0, 222, a)), (0, (2, 60, 0, 0, 0))] _ _ (xa_subI rfl rfl (fun _ _ _ _ => by omega) (xa_subI rfl rfl (fun _ _ _ _ => by omega) (xa_subI rfl rfl (fun _ _ _ _ => by omega) (xa_subR rfl xa_sub0)))) ?_
          exact ih0 (x3 + 1) x2 (by omega) (by rw [show (x3 + 1).toNat = x3.toNat + 1 by omega, sk_b0 (show ¬ sk_no (M 96) (M 97) (M 98) a ((x3.toNat : Nat) : Int) by unfold sk_no; rw [ei]; omega), ← hb]) (by omega)
        · intro (c2 : ¬ (M 96 ((a + (M 97 x3)) % 223)) = (M 98 x3))
          show Q 4 [(3, (0, 0, 1, 21, x3 + 1)), (2, (0, 0, (-2147483648), 2147483647, xa_ib 4 x2 (xa_ib 6 1 x3))), (1, (0, 0, 0, 222, a)), (0, (2, 60, 0, 0, 0))] [] M
          refine hgo.2.1 4 _ [(3, (0, 0, 0, 20, x3 + 1)), (2, (0, 0, (-2147483648), 2147483647, xa_ib 4 x2 (xa_ib 6 1 x3))), (1, (0, 0, 0, 222, a)), (0, (2, 60, 0, 0, 0))] _ _ (xa_subI rfl rfl (fun _ _ _ _ => by omega) (xa_subI rfl rfl (fun _ _ _ _ => by omega) (xa_subI rfl rfl (fun _ _ _ _ => by omega) (xa_subR rfl xa_sub0)))) ?_
          exact ih0 (x3 + 1) (xa_ib 4 x2 (xa_ib 6 1 x3)) (by omega) (by rw [show (x3 + 1).toNat = x3.toNat + 1 by omega, sk_b1 (show sk_no (M 96) (M 97) (M 98) a ((x3.toNat : Nat) : Int) by unfold sk_no; rw [ei]; omega), ← hb, ei]) (by omega)
  refine hgo.1 9 [4] 0 _ _ _ ?_
  show Q 4 [(3, (0, 0, 0, 0, 0)), (2, (0, 0, 0, 0, 0)), (0, (2, 60, 0, 0, 0)), (1, (0, 0, 0, 222, a))] [] M
  refine hgo.2.1 4 _ [(3, (0, 0, 0, 20, 0)), (2, (0, 0, (-2147483648), 2147483647, 0)), (1, (0, 0, 0, 222, a)), (0, (2, 60, 0, 0, 0))] _ _ (xa_subI rfl rfl (fun _ _ _ _ => by omega) (xa_subI rfl rfl (fun _ _ _ _ => by omega) (xa_subI rfl rfl (fun _ _ _ _ => by omega) (xa_subR rfl xa_sub0)))) ?_
  exact loop0 21 0 0 (by omega) rfl (by omega)
/-- ten at most are told -/
def rz_m (n s : Int) : Prop := (n ≤ 10 ∧ s = n) ∨ (10 < n ∧ s = 10)
theorem rz_mu {n n' s s' : Int} (e : n = n') (h : rz_m n s) (h' : rz_m n' s') : s = s' := by
  unfold rz_m at h h'
  omega
