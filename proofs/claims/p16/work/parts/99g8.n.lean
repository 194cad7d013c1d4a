-- mesh and arc (made by wip/u/mkn.py)
set_option maxRecDepth 20000
/-- a bit of a number -/
def bt (b w : Int) : Int := xa_ib 3 (xa_ib 7 b w) 1
theorem bt_z (z : Int32) {n : Nat} (hn : n < 31) : ((z >>> (Int32.ofInt (n : Int) &&& 31)) &&& 1) = if z.toBitVec.getLsbD n then 1 else 0 := by
  have key : ∀ n : Nat, n < 31 → ((Int32.ofInt (n : Int) &&& 31).toBitVec.smod 32#32).toNat = n := by decide +kernel
  refine Int32.toBitVec_inj.mp ?_
  have e : (z >>> (Int32.ofInt (n : Int) &&& 31)).toBitVec = z.toBitVec.sshiftRight n := by
    rw [Int32.toBitVec_shiftRight]
    show z.toBitVec.sshiftRight ((Int32.ofInt (n : Int) &&& 31).toBitVec.smod 32#32).toNat = _
    rw [key n hn]
  rw [Int32.toBitVec_and, e, show (1 : Int32).toBitVec = 1#32 from rfl, BitVec.and_one_eq_setWidth_ofBool_getLsbD]
  have e2 : (z.toBitVec.sshiftRight n).getLsbD 0 = z.toBitVec.getLsbD n := by
    rw [BitVec.getLsbD_sshiftRight]
    simp [show n < 32 by omega]
  rw [e2]
  cases z.toBitVec.getLsbD n <;> rfl
theorem bt_eq {b w : Int} (w0 : 0 ≤ w) (w1 : w < 31) : bt b w = if (Int32.ofInt b).toBitVec.getLsbD w.toNat then 1 else 0 := by
  have h := bt_z (Int32.ofInt b) (n := w.toNat) (by omega)
  rw [Int.toNat_of_nonneg w0] at h
  unfold bt xa_ib
  show ((Int32.ofInt ((Int32.ofInt b >>> (Int32.ofInt w &&& 31)).toInt)) &&& Int32.ofInt 1).toInt = _
  rw [Int32.ofInt_toInt, show (Int32.ofInt 1) = 1 from rfl, h]
  cases (Int32.ofInt b).toBitVec.getLsbD w.toNat <;> rfl
theorem bt_1 {b w : Int} (w0 : 0 ≤ w) (w1 : w < 31) : bt b w = 1 ↔ (Int32.ofInt b).toBitVec.getLsbD w.toNat = true := by
  rw [bt_eq w0 w1]
  cases (Int32.ofInt b).toBitVec.getLsbD w.toNat <;> simp
theorem bt_or {a b w : Int} (w0 : 0 ≤ w) (w1 : w < 31) : bt (xa_ib 4 a b) w = 1 ↔ bt a w = 1 ∨ bt b w = 1 := by
  rw [bt_1 w0 w1, bt_1 w0 w1, bt_1 w0 w1]
  have e : Int32.ofInt (xa_ib 4 a b) = Int32.ofInt a ||| Int32.ofInt b := by
    show Int32.ofInt (Int32.ofInt a ||| Int32.ofInt b).toInt = _
    rw [Int32.ofInt_toInt]
  rw [e, Int32.toBitVec_or, BitVec.getLsbD_or, Bool.or_eq_true]
theorem bt_0 {w : Int} (w0 : 0 ≤ w) (w1 : w < 31) : ¬ bt 0 w = 1 := by
  rw [bt_1 w0 w1, show (Int32.ofInt 0).toBitVec = 0#32 from rfl, BitVec.getLsbD_zero]
  decide
theorem bt_sh {k w : Int} (k0 : 0 ≤ k) (k1 : k < 31) (w0 : 0 ≤ w) (w1 : w < 31) : bt (xa_ib 6 1 k) w = 1 ↔ k = w := by
  rw [bt_1 w0 w1]
  have e : Int32.ofInt (xa_ib 6 1 k) = Int32.ofInt 1 <<< (Int32.ofInt k &&& 31) := by
    show Int32.ofInt (Int32.ofInt 1 <<< (Int32.ofInt k &&& 31)).toInt = _
    rw [Int32.ofInt_toInt]
  rw [e]
  have key : (List.range 31).all (fun k => (List.range 31).all (fun w => (Int32.ofInt 1 <<< (Int32.ofInt (k : Int) &&& 31)).toBitVec.getLsbD w == (k == w))) = true := by decide +kernel
  have h := List.all_eq_true.mp (List.all_eq_true.mp key k.toNat (List.mem_range.mpr (by omega))) w.toNat (List.mem_range.mpr (by omega))
  rw [Int.toNat_of_nonneg k0, beq_iff_eq] at h
  rw [h, beq_iff_eq]
  omega
theorem lm_ex {P : Int → Prop} {m : Int} (m0 : 0 ≤ m) : (∃ k, 0 ≤ k ∧ k < m + 1 ∧ P k) ↔ (∃ k, 0 ≤ k ∧ k < m ∧ P k) ∨ P m := by
  constructor
  · rintro ⟨k, h1, h2, h3⟩
    by_cases e : k = m
    · subst e
      exact Or.inr h3
    · exact Or.inl ⟨k, h1, by omega, h3⟩
  · rintro (⟨k, h1, h2, h3⟩ | h)
    · exact ⟨k, h1, by omega, h3⟩
    · exact ⟨m, m0, by omega, h⟩
/-- WHEELS v and w mesh by one of the first m meshes -/
def lm_m1 (M : xa_M) (v w k : Int) : Prop := (M 7 k = v ∧ M 8 k = w) ∨ (M 8 k = v ∧ M 7 k = w)
def lm_bt (M : xa_M) (v m b : Int) : Prop := ∀ w, 0 ≤ w → w < 14 → (bt b w = 1 ↔ ∃ k, 0 ≤ k ∧ k < m ∧ lm_m1 M v w k)
noncomputable def lm_if (p : Prop) : Int := @ite _ p (Classical.propDecidable p) 1 0
theorem lm_if1 {p : Prop} (h : p) : lm_if p = 1 := by
  unfold lm_if
  exact if_pos h
theorem lm_if0 {p : Prop} (h : ¬ p) : lm_if p = 0 := by
  unfold lm_if
  exact if_neg h
theorem lm_if01 (p : Prop) : lm_if p = 0 ∨ lm_if p = 1 := by
  by_cases h : p
  · exact Or.inr (lm_if1 h)
  · exact Or.inl (lm_if0 h)
theorem lm_ifc {p q : Prop} (h : p ↔ q) : lm_if p = lm_if q := by
  by_cases c : p
  · rw [lm_if1 c, lm_if1 (h.mp c)]
  · rw [lm_if0 c, lm_if0 (fun x => c (h.mpr x))]
/-- two WHEELS mesh (1), or not (0) -/
noncomputable def lm_mi (M : xa_M) (v w : Int) : Int := lm_if (∃ k, 0 ≤ k ∧ k < M 1 10 ∧ lm_m1 M v w k)
theorem cx_23_7 {b : Bool} {A : Nat → Nat} {h0 : g_H} {d : Nat} {M : xa_M} {post : Option xa_V → xa_M → Prop} {l1 u1 : Int} {i : Int} (h1 : 0 ≤ i ∧ i < 16) (k1 : post (some (0, 0, (-2147483648), 2147483647, M 7 i)) M) : xa_C (xl_I b) A h0 (d + 1) 23 [(2, 7, 0, 0, 0), (0, 0, l1, u1, i)] M post := by
  refine xa_C_arg [(2, 7, 0, 0, 0), (0, 0, (-2147483648), 2147483647, i)] (xa_svR (xa_svI (fun _ _ _ _ => by omega) xa_sv0)) ?_
  refine xa_meth (Q0 := (2, 1, false, 0, 0, 11)) (by decide +kernel) ⟨rfl, rfl⟩ (full := s_c_23) rfl rfl ?_
  intro hM hv Q hgo
  refine hgo.1 15 [] 0 _ _ _ ?_
  refine And.intro ?_ ?_
  · intro (c1 : i < 0)
    show post (some (0, 0, 0, 0, 0)) M
    exact absurd h1 (by omega)
  · intro (c1 : 0 ≤ i)
    refine And.intro ?_ ?_
    · intro (c2 : 16 ≤ i)
      show post (some (0, 0, 0, 0, 0)) M
      exact absurd h1 (by omega)
    · intro (c2 : i < 16)
      refine And.intro (show 0 ≤ i ∧ i < 16 by omega) ?_
      show post (some (0, 0, (-2147483648), 2147483647, M 7 i)) M
      exact k1
theorem cx_40_1 {b : Bool} {A : Nat → Nat} {h0 : g_H} {d : Nat} {M : xa_M} {post : Option xa_V → xa_M → Prop} {l1 u1 : Int} {x1 : Int} (h1 : 0 ≤ x1 ∧ x1 < 16) (k1 : post (some (0, 0, (-2147483648), 2147483647, M 7 x1)) M) : xa_C (xl_I b) A h0 (d + 2) 40 [(2, 1, 0, 0, 0), (0, 0, l1, u1, x1)] M post := by
  refine xa_C_arg [(2, 1, 0, 0, 0), (0, 0, (-2147483648), 2147483647, x1)] (xa_svR (xa_svI (fun _ _ _ _ => by omega) (xa_sv0))) ?_
  refine xa_meth (Q0 := (2, 1, false, 0, 0, 1)) (by decide +kernel) ⟨rfl, rfl⟩ (full := s_c_40) rfl rfl ?_
  intro hM hv Q hgo
  refine hgo.1 9 [] 0 _ _ _ ?_
  show xa_C (xl_I b) A h0 _ 23 [(2, 7, 0, 0, 0), (0, 0, (-2147483648), 2147483647, x1)] M _
  refine cx_23_7 (show 0 ≤ x1 ∧ x1 < 16 by omega) ?_
  show post (some (0, 0, (-2147483648), 2147483647, M 7 x1)) M
  exact k1
theorem cx_23_8 {b : Bool} {A : Nat → Nat} {h0 : g_H} {d : Nat} {M : xa_M} {post : Option xa_V → xa_M → Prop} {l1 u1 : Int} {i : Int} (h1 : 0 ≤ i ∧ i < 16) (k1 : post (some (0, 0, (-2147483648), 2147483647, M 8 i)) M) : xa_C (xl_I b) A h0 (d + 1) 23 [(2, 8, 0, 0, 0), (0, 0, l1, u1, i)] M post := by
  refine xa_C_arg [(2, 8, 0, 0, 0), (0, 0, (-2147483648), 2147483647, i)] (xa_svR (xa_svI (fun _ _ _ _ => by omega) xa_sv0)) ?_
  refine xa_meth (Q0 := (2, 1, false, 0, 0, 11)) (by decide +kernel) ⟨rfl, rfl⟩ (full := s_c_23) rfl rfl ?_
  intro hM hv Q hgo
  refine hgo.1 15 [] 0 _ _ _ ?_
  refine And.intro ?_ ?_
  · intro (c1 : i < 0)
    show post (some (0, 0, 0, 0, 0)) M
    exact absurd h1 (by omega)
  · intro (c1 : 0 ≤ i)
    refine And.intro ?_ ?_
    · intro (c2 : 16 ≤ i)
      show post (some (0, 0, 0, 0, 0)) M
      exact absurd h1 (by omega)
    · intro (c2 : i < 16)
      refine And.intro (show 0 ≤ i ∧ i < 16 by omega) ?_
      show post (some (0, 0, (-2147483648), 2147483647, M 8 i)) M
      exact k1
theorem cx_41_1 {b : Bool} {A : Nat → Nat} {h0 : g_H} {d : Nat} {M : xa_M} {post : Option xa_V → xa_M → Prop} {l1 u1 : Int} {x1 : Int} (h1 : 0 ≤ x1 ∧ x1 < 16) (k1 : post (some (0, 0, (-2147483648), 2147483647, M 8 x1)) M) : xa_C (xl_I b) A h0 (d + 2) 41 [(2, 1, 0, 0, 0), (0, 0, l1, u1, x1)] M post := by
  refine xa_C_arg [(2, 1, 0, 0, 0), (0, 0, (-2147483648), 2147483647, x1)] (xa_svR (xa_svI (fun _ _ _ _ => by omega) (xa_sv0))) ?_
  refine xa_meth (Q0 := (2, 1, false, 0, 0, 1)) (by decide +kernel) ⟨rfl, rfl⟩ (full := s_c_41) rfl rfl ?_
  intro hM hv Q hgo
  refine hgo.1 9 [] 0 _ _ _ ?_
  show xa_C (xl_I b) A h0 _ 23 [(2, 8, 0, 0, 0), (0, 0, (-2147483648), 2147483647, x1)] M _
  refine cx_23_8 (show 0 ≤ x1 ∧ x1 < 16 by omega) ?_
  show post (some (0, 0, (-2147483648), 2147483647, M 8 x1)) M
  exact k1
theorem cx_39_1 {b : Bool} {A : Nat → Nat} {h0 : g_H} {d : Nat} {M : xa_M} {post : Option xa_V → xa_M → Prop} {l1 u1 v : Int} (hm : 0 ≤ M 1 10 ∧ M 1 10 ≤ 16) (hr : ∀ k, 0 ≤ k → k < M 1 10 → (0 ≤ M 7 k ∧ M 7 k < 14) ∧ (0 ≤ M 8 k ∧ M 8 k < 14)) (k1 : ∀ r, lm_bt M v (M 1 10) r → post (some (0, 0, (-2147483648), 2147483647, r)) M) : xa_C (xl_I b) A h0 (d + 3) 39 [(2, 1, 0, 0, 0), (0, 0, l1, u1, v)] M post := by
  refine xa_C_arg [(2, 1, 0, 0, 0), (0, 0, (-2147483648), 2147483647, v)] (xa_svR (xa_svI (fun _ _ _ _ => by omega) xa_sv0)) ?_
  refine xa_meth (Q0 := (4, 1, false, 0, 0, 1)) (by decide +kernel) ⟨rfl, rfl⟩ (full := s_c_39) rfl rfl ?_
  intro hM hv Q hgo
  have loop : ∀ (n : Nat) (m bb : Int), 0 ≤ m → m ≤ M 1 10 → lm_bt M v m bb → M 1 10 - m < (n : Int) → Q 4 [(3, (0, 0, 0, 16, m)), (2, (0, 0, (-2147483648), 2147483647, bb)), (0, (2, 1, 0, 0, 0)), (1, (0, 0, (-2147483648), 2147483647, v))] [] M := by
    intro n
    induction n with
    | zero => intro m bb h1 h2 hb hms; omega
    | succ n ih =>
      intro m bb h1 h2 hb hms
      refine hgo.1 39 [4] 4 _ _ _ ?_
      refine And.intro ?_ ?_
      · intro (c1 : (M 1 10) ≤ m)
        show post (some (0, 0, (-2147483648), 2147483647, bb)) M
        exact k1 _ (fun w w0 w1 => by rw [hb w w0 w1, show m = M 1 10 by omega])
      · intro (c1 : m < (M 1 10))
        show xa_C (xl_I b) A h0 _ 40 [(2, 1, 0, 0, 0), (0, 0, 0, 16, m)] M _
        refine cx_40_1 (show 0 ≤ m ∧ m < 16 by omega) ?_
        refine And.intro ?_ ?_
        · intro (c2 : ¬ (M 7 m) = v)
          show xa_C (xl_I b) A h0 _ 41 [(2, 1, 0, 0, 0), (0, 0, 0, 16, m)] M _
          refine cx_41_1 (show 0 ≤ m ∧ m < 16 by omega) ?_
          refine And.intro ?_ ?_
          · intro (c3 : ¬ (M 8 m) = v)
            show Q 4 [(3, (0, 0, 1, 17, m + 1)), (2, (0, 0, (-2147483648), 2147483647, xa_ib 4 (xa_ib 4 bb 0) 0)), (0, (2, 1, 0, 0, 0)), (1, (0, 0, (-2147483648), 2147483647, v))] [] M
            refine hgo.2.1 4 _ [(3, (0, 0, 0, 16, m + 1)), (2, (0, 0, (-2147483648), 2147483647, xa_ib 4 (xa_ib 4 bb 0) 0)), (0, (2, 1, 0, 0, 0)), (1, (0, 0, (-2147483648), 2147483647, v))] _ _ (xa_subI rfl rfl (fun _ _ _ _ => by omega) (xa_subI rfl rfl (fun _ _ _ _ => by omega) (xa_subR rfl (xa_subI rfl rfl (fun _ _ _ _ => by omega) (xa_sub0))))) ?_
            exact ih (m + 1) (xa_ib 4 (xa_ib 4 bb 0) 0) (by omega) (by omega) (fun w w0 w1 => by
              have g := hr m (by omega) (by omega)
              rw [bt_or w0 (by omega), bt_or w0 (by omega), hb w w0 w1, lm_ex (by omega)]
              have z0 := bt_0 w0 (show w < 31 by omega)
              have s1 := bt_sh (k := M 8 m) (by omega) (by omega) w0 (show w < 31 by omega)
              have s2 := bt_sh (k := M 7 m) (by omega) (by omega) w0 (show w < 31 by omega)
              simp only [s1, s2, z0, or_false]
              by_cases hp : ∃ k, 0 ≤ k ∧ k < m ∧ lm_m1 M v w k
              · simp only [hp, true_or, iff_self]
              · simp only [hp, false_or, false_iff]
                unfold lm_m1
                omega) (by omega)
          · intro (c3 : (M 8 m) = v)
            show xa_C (xl_I b) A h0 _ 40 [(2, 1, 0, 0, 0), (0, 0, 0, 16, m)] M _
            refine cx_40_1 (show 0 ≤ m ∧ m < 16 by omega) ?_
            show Q 4 [(3, (0, 0, 1, 17, m + 1)), (2, (0, 0, (-2147483648), 2147483647, xa_ib 4 (xa_ib 4 bb 0) (xa_ib 6 1 (M 7 m)))), (0, (2, 1, 0, 0, 0)), (1, (0, 0, (-2147483648), 2147483647, v))] [] M
            refine hgo.2.1 4 _ [(3, (0, 0, 0, 16, m + 1)), (2, (0, 0, (-2147483648), 2147483647, xa_ib 4 (xa_ib 4 bb 0) (xa_ib 6 1 (M 7 m)))), (0, (2, 1, 0, 0, 0)), (1, (0, 0, (-2147483648), 2147483647, v))] _ _ (xa_subI rfl rfl (fun _ _ _ _ => by omega) (xa_subI rfl rfl (fun _ _ _ _ => by omega) (xa_subR rfl (xa_subI rfl rfl (fun _ _ _ _ => by omega) (xa_sub0))))) ?_
            exact ih (m + 1) (xa_ib 4 (xa_ib 4 bb 0) (xa_ib 6 1 (M 7 m))) (by omega) (by omega) (fun w w0 w1 => by
              have g := hr m (by omega) (by omega)
              rw [bt_or w0 (by omega), bt_or w0 (by omega), hb w w0 w1, lm_ex (by omega)]
              have z0 := bt_0 w0 (show w < 31 by omega)
              have s1 := bt_sh (k := M 8 m) (by omega) (by omega) w0 (show w < 31 by omega)
              have s2 := bt_sh (k := M 7 m) (by omega) (by omega) w0 (show w < 31 by omega)
              simp only [s1, s2, z0, or_false]
              by_cases hp : ∃ k, 0 ≤ k ∧ k < m ∧ lm_m1 M v w k
              · simp only [hp, true_or, iff_self]
              · simp only [hp, false_or, false_iff]
                unfold lm_m1
                omega) (by omega)
        · intro (c2 : (M 7 m) = v)
          show xa_C (xl_I b) A h0 _ 41 [(2, 1, 0, 0, 0), (0, 0, 0, 16, m)] M _
          refine cx_41_1 (show 0 ≤ m ∧ m < 16 by omega) ?_
          show xa_C (xl_I b) A h0 _ 41 [(2, 1, 0, 0, 0), (0, 0, 0, 16, m)] M _
          refine cx_41_1 (show 0 ≤ m ∧ m < 16 by omega) ?_
          refine And.intro ?_ ?_
          · intro (c4 : ¬ (M 8 m) = v)
            show Q 4 [(3, (0, 0, 1, 17, m + 1)), (2, (0, 0, (-2147483648), 2147483647, xa_ib 4 (xa_ib 4 bb (xa_ib 6 1 (M 8 m))) 0)), (0, (2, 1, 0, 0, 0)), (1, (0, 0, (-2147483648), 2147483647, v))] [] M
            refine hgo.2.1 4 _ [(3, (0, 0, 0, 16, m + 1)), (2, (0, 0, (-2147483648), 2147483647, xa_ib 4 (xa_ib 4 bb (xa_ib 6 1 (M 8 m))) 0)), (0, (2, 1, 0, 0, 0)), (1, (0, 0, (-2147483648), 2147483647, v))] _ _ (xa_subI rfl rfl (fun _ _ _ _ => by omega) (xa_subI rfl rfl (fun _ _ _ _ => by omega) (xa_subR rfl (xa_subI rfl rfl (fun _ _ _ _ => by omega) (xa_sub0))))) ?_
            exact ih (m + 1) (xa_ib 4 (xa_ib 4 bb (xa_ib 6 1 (M 8 m))) 0) (by omega) (by omega) (fun w w0 w1 => by
              have g := hr m (by omega) (by omega)
              rw [bt_or w0 (by omega), bt_or w0 (by omega), hb w w0 w1, lm_ex (by omega)]
              have z0 := bt_0 w0 (show w < 31 by omega)
              have s1 := bt_sh (k := M 8 m) (by omega) (by omega) w0 (show w < 31 by omega)
              have s2 := bt_sh (k := M 7 m) (by omega) (by omega) w0 (show w < 31 by omega)
              simp only [s1, s2, z0, or_false]
              by_cases hp : ∃ k, 0 ≤ k ∧ k < m ∧ lm_m1 M v w k
              · simp only [hp, true_or, iff_self]
              · simp only [hp, false_or, false_iff]
                unfold lm_m1
                omega) (by omega)
          · intro (c4 : (M 8 m) = v)
            show xa_C (xl_I b) A h0 _ 40 [(2, 1, 0, 0, 0), (0, 0, 0, 16, m)] M _
            refine cx_40_1 (show 0 ≤ m ∧ m < 16 by omega) ?_
            show Q 4 [(3, (0, 0, 1, 17, m + 1)), (2, (0, 0, (-2147483648), 2147483647, xa_ib 4 (xa_ib 4 bb (xa_ib 6 1 (M 8 m))) (xa_ib 6 1 (M 7 m)))), (0, (2, 1, 0, 0, 0)), (1, (0, 0, (-2147483648), 2147483647, v))] [] M
            refine hgo.2.1 4 _ [(3, (0, 0, 0, 16, m + 1)), (2, (0, 0, (-2147483648), 2147483647, xa_ib 4 (xa_ib 4 bb (xa_ib 6 1 (M 8 m))) (xa_ib 6 1 (M 7 m)))), (0, (2, 1, 0, 0, 0)), (1, (0, 0, (-2147483648), 2147483647, v))] _ _ (xa_subI rfl rfl (fun _ _ _ _ => by omega) (xa_subI rfl rfl (fun _ _ _ _ => by omega) (xa_subR rfl (xa_subI rfl rfl (fun _ _ _ _ => by omega) (xa_sub0))))) ?_
            exact ih (m + 1) (xa_ib 4 (xa_ib 4 bb (xa_ib 6 1 (M 8 m))) (xa_ib 6 1 (M 7 m))) (by omega) (by omega) (fun w w0 w1 => by
              have g := hr m (by omega) (by omega)
              rw [bt_or w0 (by omega), bt_or w0 (by omega), hb w w0 w1, lm_ex (by omega)]
              have z0 := bt_0 w0 (show w < 31 by omega)
              have s1 := bt_sh (k := M 8 m) (by omega) (by omega) w0 (show w < 31 by omega)
              have s2 := bt_sh (k := M 7 m) (by omega) (by omega) w0 (show w < 31 by omega)
              simp only [s1, s2, z0, or_false]
              by_cases hp : ∃ k, 0 ≤ k ∧ k < m ∧ lm_m1 M v w k
              · simp only [hp, true_or, iff_self]
              · simp only [hp, false_or, false_iff]
                unfold lm_m1
                omega) (by omega)
  refine hgo.1 9 [4] 0 _ _ _ ?_
  show Q 4 [(3, (0, 0, 0, 0, 0)), (2, (0, 0, 0, 0, 0)), (0, (2, 1, 0, 0, 0)), (1, (0, 0, (-2147483648), 2147483647, v))] [] M
  refine hgo.2.1 4 _ [(3, (0, 0, 0, 16, 0)), (2, (0, 0, (-2147483648), 2147483647, 0)), (0, (2, 1, 0, 0, 0)), (1, (0, 0, (-2147483648), 2147483647, v))] _ _ (xa_subI rfl rfl (fun _ _ _ _ => by omega) (xa_subI rfl rfl (fun _ _ _ _ => by omega) (xa_subR rfl (xa_subI rfl rfl (fun _ _ _ _ => by omega) (xa_sub0))))) ?_
  exact loop 17 0 0 (by omega) (by omega) (fun w w0 w1 => ⟨fun h => absurd h (bt_0 w0 (by omega)), fun ⟨k, k0, k1, _⟩ => by omega⟩) (by omega)
theorem cx_38_1 {b : Bool} {A : Nat → Nat} {h0 : g_H} {d : Nat} {M : xa_M} {post : Option xa_V → xa_M → Prop} {l1 u1 l2 u2 v w : Int} (hm : 0 ≤ M 1 10 ∧ M 1 10 ≤ 16) (hr : ∀ k, 0 ≤ k → k < M 1 10 → (0 ≤ M 7 k ∧ M 7 k < 14) ∧ (0 ≤ M 8 k ∧ M 8 k < 14)) (hw : 0 ≤ w ∧ w < 14) (k1 : post (some (0, 0, 0, 1, lm_mi M v w)) M) : xa_C (xl_I b) A h0 (d + 4) 38 [(2, 1, 0, 0, 0), (0, 0, l1, u1, v), (0, 0, l2, u2, w)] M post := by
  refine xa_C_arg [(2, 1, 0, 0, 0), (0, 0, (-2147483648), 2147483647, v), (0, 0, (-2147483648), 2147483647, w)] (xa_svR (xa_svI (fun _ _ _ _ => by omega) (xa_svI (fun _ _ _ _ => by omega) xa_sv0))) (xa_C_wk ?_)
  refine xa_meth (Q0 := (3, 2, false, 0, 0, 1)) (by decide +kernel) ⟨rfl, rfl⟩ (full := s_c_38) rfl rfl ?_
  intro hM hv Q hgo
  refine hgo.1 20 [] 0 _ _ _ ?_
  show xa_C (xl_I b) A h0 _ 39 [(2, 1, 0, 0, 0), (0, 0, (-2147483648), 2147483647, v)] M _
  refine cx_39_1 hm hr (fun r hb => ?_)
  have hb' := hb w hw.1 hw.2
  refine And.intro ?_ ?_
  · intro (c1 : ¬ bt r w = 1)
    show xa_wk post (some (0, 0, 0, 0, 0)) M
    have e : lm_mi M v w = 0 := lm_if0 (fun h => c1 (hb'.mpr h))
    exact xa_wkI (lm_mi M v w) e.symm (fun _ _ => by omega) k1
  · intro (c1 : bt r w = 1)
    show xa_wk post (some (0, 0, 1, 1, 1)) M
    have e : lm_mi M v w = 1 := lm_if1 (hb'.mp c1)
    exact xa_wkI (lm_mi M v w) e.symm (fun _ _ => by omega) k1
def lh_ok (n m x y q a b : Int) : Prop := (0 ≤ a ∧ a < n) ∧ (0 ≤ b ∧ b < n) ∧ ¬ x = y ∧ q = 0 ∧ m < 16
theorem cx_20_1 {b : Bool} {A : Nat → Nat} {h0 : g_H} {d : Nat} {M : xa_M} {post : Option xa_V → xa_M → Prop} {l1 u1 : Int} {x1 : Int} (k1 : (x1 < 0) → post (some (0, 0, 0, 0, 0)) M) (k2 : (0 ≤ x1) → ((M 1 9) ≤ x1) → post (some (0, 0, 0, 0, 0)) M) (k3 : (0 ≤ x1) → (x1 < (M 1 9)) → post (some (0, 0, 1, 1, 1)) M) : xa_C (xl_I b) A h0 (d + 1) 20 [(2, 1, 0, 0, 0), (0, 0, l1, u1, x1)] M post := by
  refine xa_C_arg [(2, 1, 0, 0, 0), (0, 0, (-2147483648), 2147483647, x1)] (xa_svR (xa_svI (fun _ _ _ _ => by omega) (xa_sv0))) ?_
  refine xa_meth (Q0 := (2, 2, false, 0, 0, 1)) (by decide +kernel) ⟨rfl, rfl⟩ (full := s_c_20) rfl rfl ?_
  intro hM hv Q hgo
  refine hgo.1 13 [] 0 _ _ _ ?_
  refine And.intro ?_ ?_
  · intro (c1 : x1 < 0)
    show post (some (0, 0, 0, 0, 0)) M
    exact k1 c1
  · intro (c1 : 0 ≤ x1)
    refine And.intro ?_ ?_
    · intro (c2 : (M 1 9) ≤ x1)
      show post (some (0, 0, 0, 0, 0)) M
      exact k2 c1 c2
    · intro (c2 : x1 < (M 1 9))
      show post (some (0, 0, 1, 1, 1)) M
      exact k3 c1 c2
theorem cx_23_5 {b : Bool} {A : Nat → Nat} {h0 : g_H} {d : Nat} {M : xa_M} {post : Option xa_V → xa_M → Prop} {l1 u1 : Int} {i : Int} (h1 : 0 ≤ i ∧ i < 14) (k1 : post (some (0, 0, (-2147483648), 2147483647, M 5 i)) M) : xa_C (xl_I b) A h0 (d + 1) 23 [(2, 5, 0, 0, 0), (0, 0, l1, u1, i)] M post := by
  refine xa_C_arg [(2, 5, 0, 0, 0), (0, 0, (-2147483648), 2147483647, i)] (xa_svR (xa_svI (fun _ _ _ _ => by omega) xa_sv0)) ?_
  refine xa_meth (Q0 := (2, 1, false, 0, 0, 11)) (by decide +kernel) ⟨rfl, rfl⟩ (full := s_c_23) rfl rfl ?_
  intro hM hv Q hgo
  refine hgo.1 15 [] 0 _ _ _ ?_
  refine And.intro ?_ ?_
  · intro (c1 : i < 0)
    show post (some (0, 0, 0, 0, 0)) M
    exact absurd h1 (by omega)
  · intro (c1 : 0 ≤ i)
    refine And.intro ?_ ?_
    · intro (c2 : 14 ≤ i)
      show post (some (0, 0, 0, 0, 0)) M
      exact absurd h1 (by omega)
    · intro (c2 : i < 14)
      refine And.intro (show 0 ≤ i ∧ i < 14 by omega) ?_
      show post (some (0, 0, (-2147483648), 2147483647, M 5 i)) M
      exact k1
theorem cx_37_1 {b : Bool} {A : Nat → Nat} {h0 : g_H} {d : Nat} {M : xa_M} {post : Option xa_V → xa_M → Prop} {l1 u1 : Int} {x1 : Int} (h1 : 0 ≤ x1 ∧ x1 < 14) (k1 : post (some (0, 0, (-2147483648), 2147483647, M 5 x1)) M) : xa_C (xl_I b) A h0 (d + 2) 37 [(2, 1, 0, 0, 0), (0, 0, l1, u1, x1)] M post := by
  refine xa_C_arg [(2, 1, 0, 0, 0), (0, 0, (-2147483648), 2147483647, x1)] (xa_svR (xa_svI (fun _ _ _ _ => by omega) (xa_sv0))) ?_
  refine xa_meth (Q0 := (2, 1, false, 0, 0, 1)) (by decide +kernel) ⟨rfl, rfl⟩ (full := s_c_37) rfl rfl ?_
  intro hM hv Q hgo
  refine hgo.1 9 [] 0 _ _ _ ?_
  show xa_C (xl_I b) A h0 _ 23 [(2, 5, 0, 0, 0), (0, 0, (-2147483648), 2147483647, x1)] M _
  refine cx_23_5 (show 0 ≤ x1 ∧ x1 < 14 by omega) ?_
  show post (some (0, 0, (-2147483648), 2147483647, M 5 x1)) M
  exact k1
theorem cx_18_7 {b : Bool} {A : Nat → Nat} {h0 : g_H} {d : Nat} {M : xa_M} {post : Option xa_V → xa_M → Prop} {l1 u1 l2 u2 : Int} {i v : Int} (h1 : 0 ≤ i ∧ i < 16) (k1 : post none (xa_up M 7 i v)) : xa_C (xl_I b) A h0 (d + 1) 18 [(2, 7, 0, 0, 0), (0, 0, l1, u1, i), (0, 0, l2, u2, v)] M post := by
  refine xa_C_arg [(2, 7, 0, 0, 0), (0, 0, (-2147483648), 2147483647, i), (0, 0, (-2147483648), 2147483647, v)] (xa_svR (xa_svI (fun _ _ _ _ => by omega) (xa_svI (fun _ _ _ _ => by omega) xa_sv0))) ?_
  refine xa_meth (Q0 := (3, 0, false, 0, 0, 11)) (by decide +kernel) ⟨rfl, rfl⟩ (full := s_c_18) rfl rfl ?_
  intro hM hv Q hgo
  refine hgo.1 15 [] 0 _ _ _ ?_
  refine And.intro ?_ ?_
  · intro (c1 : i < 0)
    show post none M
    exact absurd h1 (by omega)
  · intro (c1 : 0 ≤ i)
    refine And.intro ?_ ?_
    · intro (c2 : 16 ≤ i)
      show post none M
      exact absurd h1 (by omega)
    · intro (c2 : i < 16)
      refine And.intro (show 0 ≤ i ∧ i < 16 by omega) ?_
      show post none (xa_up M 7 i v)
      exact k1
theorem cx_18_8 {b : Bool} {A : Nat → Nat} {h0 : g_H} {d : Nat} {M : xa_M} {post : Option xa_V → xa_M → Prop} {l1 u1 l2 u2 : Int} {i v : Int} (h1 : 0 ≤ i ∧ i < 16) (k1 : post none (xa_up M 8 i v)) : xa_C (xl_I b) A h0 (d + 1) 18 [(2, 8, 0, 0, 0), (0, 0, l1, u1, i), (0, 0, l2, u2, v)] M post := by
  refine xa_C_arg [(2, 8, 0, 0, 0), (0, 0, (-2147483648), 2147483647, i), (0, 0, (-2147483648), 2147483647, v)] (xa_svR (xa_svI (fun _ _ _ _ => by omega) (xa_svI (fun _ _ _ _ => by omega) xa_sv0))) ?_
  refine xa_meth (Q0 := (3, 0, false, 0, 0, 11)) (by decide +kernel) ⟨rfl, rfl⟩ (full := s_c_18) rfl rfl ?_
  intro hM hv Q hgo
  refine hgo.1 15 [] 0 _ _ _ ?_
  refine And.intro ?_ ?_
  · intro (c1 : i < 0)
    show post none M
    exact absurd h1 (by omega)
  · intro (c1 : 0 ≤ i)
    refine And.intro ?_ ?_
    · intro (c2 : 16 ≤ i)
      show post none M
      exact absurd h1 (by omega)
    · intro (c2 : i < 16)
      refine And.intro (show 0 ≤ i ∧ i < 16 by omega) ?_
      show post none (xa_up M 8 i v)
      exact k1
theorem cx_42_1 {b : Bool} {A : Nat → Nat} {h0 : g_H} {d : Nat} {M : xa_M} {post : Option xa_V → xa_M → Prop} {l1 u1 l2 u2 : Int} {x1 x2 : Int} (h1 : 0 ≤ (M 1 10) ∧ (M 1 10) ≤ 16) (k1 : ((M 1 10) < 16) → post (some (0, 0, (-2147483648), 2147483647, xa_w32 ((M 1 10) + 1))) (xa_up (xa_up (xa_up M 7 (M 1 10) x1) 8 (M 1 10) x2) 1 10 (xa_w32 ((M 1 10) + 1)))) (k2 : (16 ≤ (M 1 10)) → post (some (0, 0, (-1), (-1), (-1))) M) : xa_C (xl_I b) A h0 (d + 2) 42 [(2, 1, 0, 0, 0), (0, 0, l1, u1, x1), (0, 0, l2, u2, x2)] M post := by
  refine xa_C_arg [(2, 1, 0, 0, 0), (0, 0, (-2147483648), 2147483647, x1), (0, 0, (-2147483648), 2147483647, x2)] (xa_svR (xa_svI (fun _ _ _ _ => by omega) (xa_svI (fun _ _ _ _ => by omega) (xa_sv0)))) ?_
  refine xa_meth (Q0 := (3, 1, false, 0, 0, 1)) (by decide +kernel) ⟨rfl, rfl⟩ (full := s_c_42) rfl rfl ?_
  intro hM hv Q hgo
  refine hgo.1 29 [] 0 _ _ _ ?_
  refine And.intro ?_ ?_
  · intro (c1 : (M 1 10) < 16)
    show xa_C (xl_I b) A h0 _ 18 [(2, 7, 0, 0, 0), (0, 0, (-2147483648), 2147483647, M 1 10), (0, 0, (-2147483648), 2147483647, x1)] M _
    refine cx_18_7 (show 0 ≤ (M 1 10) ∧ (M 1 10) < 16 by omega) ?_
    show xa_C (xl_I b) A h0 _ 18 [(2, 8, 0, 0, 0), (0, 0, (-2147483648), 2147483647, M 1 10), (0, 0, (-2147483648), 2147483647, x2)] (xa_up M 7 (M 1 10) x1) _
    refine cx_18_8 (show 0 ≤ (M 1 10) ∧ (M 1 10) < 16 by omega) ?_
    show post (some (0, 0, (-2147483648), 2147483647, xa_w32 ((M 1 10) + 1))) (xa_up (xa_up (xa_up M 7 (M 1 10) x1) 8 (M 1 10) x2) 1 10 (xa_w32 ((M 1 10) + 1)))
    exact k1 c1
  · intro (c1 : 16 ≤ (M 1 10))
    show post (some (0, 0, (-1), (-1), (-1))) M
    exact k2 c1
theorem cw_36 {b : Bool} {A : Nat → Nat} {h0 : g_H} {d : Nat} {M : xa_M} {post : Option xa_V → xa_M → Prop} {l1 u1 l2 u2 x1 x2 : Int} (h1 : 0 ≤ M 1 9 ∧ M 1 9 ≤ 14) (hm : 0 ≤ M 1 10 ∧ M 1 10 ≤ 16) (hr : ∀ k, 0 ≤ k → k < M 1 10 → (0 ≤ M 7 k ∧ M 7 k < 14) ∧ (0 ≤ M 8 k ∧ M 8 k < 14)) (k : ∀ o M1, iv_P (lh_ok (M 1 9) (M 1 10) (M 5 x1) (M 5 x2) (lm_mi M x1 x2) x1 x2) (xa_w32 ((M 1 10) + 1)) (xa_up (xa_up (xa_up M 7 (M 1 10) x1) 8 (M 1 10) x2) 1 10 (xa_w32 ((M 1 10) + 1))) (-1) M o M1 → post o M1) : xa_C (xl_I b) A h0 (d + 5) 36 [(2, 0, 0, 0, 0), (0, 0, l1, u1, x1), (0, 0, l2, u2, x2)] M post := by
  refine xa_C_arg [(2, 0, 0, 0, 0), (0, 0, (-2147483648), 2147483647, x1), (0, 0, (-2147483648), 2147483647, x2)] (xa_svR (xa_svI (fun _ _ _ _ => by omega) (xa_svI (fun _ _ _ _ => by omega) (xa_sv0)))) ?_
  refine xa_meth (Q0 := (3, 1, false, 0, 0, 11)) (by decide +kernel) ⟨rfl, rfl⟩ (full := s_c_36) rfl rfl ?_
  intro hM hv Q hgo
  have mi := lm_if01 (∃ k, 0 ≤ k ∧ k < M 1 10 ∧ lm_m1 M x1 x2 k)
  have mi : lm_mi M x1 x2 = 0 ∨ lm_mi M x1 x2 = 1 := mi
  refine hgo.1 35 [] 0 _ _ _ ?_
  show xa_C (xl_I b) A h0 _ 20 [(2, 1, 0, 0, 0), (0, 0, (-2147483648), 2147483647, x1)] M _
  refine cx_20_1 ?_ ?_ ?_
  · intro (i1 : x1 < 0)
    show post (some (0, 0, (-1), (-1), (-1))) M
    first
      | exact k _ _ (Or.inr ⟨by unfold lh_ok; omega, ⟨_, _, rfl⟩, rfl⟩)
      | exact k _ _ (Or.inl ⟨by unfold lh_ok; omega, ⟨_, _, rfl⟩, rfl⟩)
  · intro (i2 : 0 ≤ x1) (i3 : (M 1 9) ≤ x1)
    show post (some (0, 0, (-1), (-1), (-1))) M
    first
      | exact k _ _ (Or.inr ⟨by unfold lh_ok; omega, ⟨_, _, rfl⟩, rfl⟩)
      | exact k _ _ (Or.inl ⟨by unfold lh_ok; omega, ⟨_, _, rfl⟩, rfl⟩)
  · intro (i4 : 0 ≤ x1) (i5 : x1 < (M 1 9))
    show xa_C (xl_I b) A h0 _ 20 [(2, 1, 0, 0, 0), (0, 0, (-2147483648), 2147483647, x2)] M _
    refine cx_20_1 ?_ ?_ ?_
    · intro (i6 : x2 < 0)
      show post (some (0, 0, (-1), (-1), (-1))) M
      first
        | exact k _ _ (Or.inr ⟨by unfold lh_ok; omega, ⟨_, _, rfl⟩, rfl⟩)
        | exact k _ _ (Or.inl ⟨by unfold lh_ok; omega, ⟨_, _, rfl⟩, rfl⟩)
    · intro (i7 : 0 ≤ x2) (i8 : (M 1 9) ≤ x2)
      show post (some (0, 0, (-1), (-1), (-1))) M
      first
        | exact k _ _ (Or.inr ⟨by unfold lh_ok; omega, ⟨_, _, rfl⟩, rfl⟩)
        | exact k _ _ (Or.inl ⟨by unfold lh_ok; omega, ⟨_, _, rfl⟩, rfl⟩)
    · intro (i9 : 0 ≤ x2) (i10 : x2 < (M 1 9))
      show xa_C (xl_I b) A h0 _ 37 [(2, 1, 0, 0, 0), (0, 0, (-2147483648), 2147483647, x1)] M _
      refine cx_37_1 (show 0 ≤ x1 ∧ x1 < 14 by omega) ?_
      show xa_C (xl_I b) A h0 _ 37 [(2, 1, 0, 0, 0), (0, 0, (-2147483648), 2147483647, x2)] M _
      refine cx_37_1 (show 0 ≤ x2 ∧ x2 < 14 by omega) ?_
      refine And.intro ?_ ?_
      · intro (c11 : (M 5 x1) = (M 5 x2))
        show post (some (0, 0, (-1), (-1), (-1))) M
        first
          | exact k _ _ (Or.inr ⟨by unfold lh_ok; omega, ⟨_, _, rfl⟩, rfl⟩)
          | exact k _ _ (Or.inl ⟨by unfold lh_ok; omega, ⟨_, _, rfl⟩, rfl⟩)
      · intro (c11 : ¬ (M 5 x1) = (M 5 x2))
        show xa_C (xl_I b) A h0 _ 38 [(2, 1, 0, 0, 0), (0, 0, (-2147483648), 2147483647, x1), (0, 0, (-2147483648), 2147483647, x2)] M _
        refine cx_38_1 hm hr (show 0 ≤ x2 ∧ x2 < 14 by omega) ?_
        refine And.intro ?_ ?_
        · intro (c12 : (lm_mi M x1 x2) = 0)
          show xa_C (xl_I b) A h0 _ 42 [(2, 1, 0, 0, 0), (0, 0, (-2147483648), 2147483647, x1), (0, 0, (-2147483648), 2147483647, x2)] M _
          refine cx_42_1 (show 0 ≤ (M 1 10) ∧ (M 1 10) ≤ 16 by omega) ?_ ?_
          · intro (i13 : (M 1 10) < 16)
            show post (some (0, 0, (-2147483648), 2147483647, xa_w32 ((M 1 10) + 1))) (xa_up (xa_up (xa_up M 7 (M 1 10) x1) 8 (M 1 10) x2) 1 10 (xa_w32 ((M 1 10) + 1)))
            first
              | exact k _ _ (Or.inr ⟨by unfold lh_ok; omega, ⟨_, _, rfl⟩, rfl⟩)
              | exact k _ _ (Or.inl ⟨by unfold lh_ok; omega, ⟨_, _, rfl⟩, rfl⟩)
          · intro (i14 : 16 ≤ (M 1 10))
            show post (some (0, 0, (-1), (-1), (-1))) M
            first
              | exact k _ _ (Or.inr ⟨by unfold lh_ok; omega, ⟨_, _, rfl⟩, rfl⟩)
              | exact k _ _ (Or.inl ⟨by unfold lh_ok; omega, ⟨_, _, rfl⟩, rfl⟩)
        · intro (c12 : ¬ (lm_mi M x1 x2) = 0)
          show post (some (0, 0, (-1), (-1), (-1))) M
          first
            | exact k _ _ (Or.inr ⟨by unfold lh_ok; omega, ⟨_, _, rfl⟩, rfl⟩)
            | exact k _ _ (Or.inl ⟨by unfold lh_ok; omega, ⟨_, _, rfl⟩, rfl⟩)
theorem ms_meshF {A : Nat → Nat} {h0 : g_H} {d : Nat} {M : xa_M} {post : Option xa_V → xa_M → Prop} {l1 u1 l2 u2 : Int} {a b : Int} (hI : xm_Inv M) (k : ∀ (o : Option xa_V) (M1 : xa_M), iv_P (lh_ok (M 60 0) (M 60 6) (M 64 a) (M 64 b) (lm_if (xm_meshed M a b)) a b) ((M 60 6) + 1) (xa_up (xa_up (xa_up (xa_up M 60 21 0) 66 (M 60 6) a) 67 (M 60 6) b) 60 6 ((M 60 6) + 1)) (-1) (xa_up M 60 21 0) o M1 → xm_Inv M1 → post o M1) : xa_C xm_I A h0 (d + 3) 220 [(2, 60, 0, 0, 0), (0, 0, l1, u1, a), (0, 0, l2, u2, b)] M post := by
  refine xa_C_arg [(2, 60, 0, 0, 0), (0, 0, (-2147483648), 2147483647, a), (0, 0, (-2147483648), 2147483647, b)] (xa_svR (xa_svI (fun _ _ _ _ => by omega) (xa_svI (fun _ _ _ _ => by omega) xa_sv0))) ?_
  refine xa_meth (Q0 := (3, 1, false, 0, 0, 12)) (by decide +kernel) ⟨rfl, rfl⟩ (full := s_c_220) rfl rfl ?_
  intro hM hv Q hgo
  have b0 := xm_f0 hM
  have b6 := xm_f6 hM
  refine hgo.1 54 [] 0 _ _ _ ?_
  show xa_C xm_I A h0 _ 217 [(2, 60, 0, 0, 0), (0, 0, (-2147483648), 2147483647, a)] (xa_up M 60 21 0) _
  refine ct_isWheel ?_ ?_
  · intro (i1 : 0 ≤ a ∧ a < (M 60 0))
    show xa_C xm_I A h0 _ 217 [(2, 60, 0, 0, 0), (0, 0, (-2147483648), 2147483647, b)] (xa_up M 60 21 0) _
    refine ct_isWheel ?_ ?_
    · intro (i2 : 0 ≤ b ∧ b < (M 60 0))
      refine And.intro (show 0 ≤ a ∧ a < 14 by omega) ?_
      refine And.intro (show 0 ≤ b ∧ b < 14 by omega) ?_
      refine And.intro ?_ ?_
      · intro (c3 : (M 64 a) = (M 64 b))
        show post (some (0, 0, (-1), (-1), (-1))) (xa_up M 60 21 0)
        exact k _ _ (by first | exact Or.inr ⟨by unfold lh_ok; omega, ⟨_, _, rfl⟩, rfl⟩ | exact Or.inl ⟨by unfold lh_ok; omega, ⟨_, _, rfl⟩, rfl⟩) (xm_Inv_cor (xm_cor_f (by omega) xm_cor_r) hI)
      · intro (c3 : ¬ (M 64 a) = (M 64 b))
        show xa_C xm_I A h0 _ 221 [(2, 60, 0, 0, 0), (0, 0, (-2147483648), 2147483647, a), (0, 0, (-2147483648), 2147483647, b)] (xa_up M 60 21 0) _
        refine ct_areMeshed (fun r4 zr4 er4 => ?_)
        have e4 : r4 = lm_if (xm_meshed M a b) := by
          by_cases c : xm_meshed M a b
          · rw [lm_if1 c]
            exact er4.mpr c
          · rw [lm_if0 c]
            rcases zr4 with e | e
            · exact e
            · exact absurd (er4.mp e) c
        refine And.intro ?_ ?_
        · intro (c5 : ¬ r4 = 0)
          show post (some (0, 0, (-1), (-1), (-1))) (xa_up M 60 21 0)
          exact k _ _ (by first | exact Or.inr ⟨by unfold lh_ok; omega, ⟨_, _, rfl⟩, rfl⟩ | exact Or.inl ⟨by unfold lh_ok; omega, ⟨_, _, rfl⟩, rfl⟩) (xm_Inv_cor (xm_cor_f (by omega) xm_cor_r) hI)
        · intro (c5 : r4 = 0)
          refine And.intro ?_ ?_
          · intro (c6 : ¬ (M 60 6) = 16)
            refine And.intro (show 0 ≤ (M 60 6) ∧ (M 60 6) < 16 by omega) ?_
            refine And.intro (show 0 ≤ a ∧ a ≤ 13 by omega) ?_
            refine And.intro (show 0 ≤ (M 60 6) ∧ (M 60 6) < 16 by omega) ?_
            refine And.intro (show 0 ≤ b ∧ b ≤ 13 by omega) ?_
            refine And.intro (show 0 ≤ ((M 60 6) + 1) ∧ ((M 60 6) + 1) ≤ 16 by omega) ?_
            show post (some (0, 0, 0, 16, (M 60 6) + 1)) (xa_up (xa_up (xa_up (xa_up M 60 21 0) 66 (M 60 6) a) 67 (M 60 6) b) 60 6 ((M 60 6) + 1))
            refine k _ _ (by first | exact Or.inr ⟨by unfold lh_ok; omega, ⟨_, _, rfl⟩, rfl⟩ | exact Or.inl ⟨by unfold lh_ok; omega, ⟨_, _, rfl⟩, rfl⟩) (xm_Inv_b (M := M) (fun j => by simp [xa_up]) (fun j => by simp [xa_up]) hI (fun w w0 w1 => ?_) (fun m m0 m1 => ?_) (fun p p0 p1 => ?_) ?_)
            · have h := hI.1 w w0 (by simp [xa_up] at w1; omega)
              simp [xa_up]
              exact h
            · by_cases e : m = M 60 6
              · rw [e]
                simp [xa_up]
                omega
              · have h := hI.2.1 m m0 (by simp [xa_up] at m1; omega)
                simp [xa_up, e]
                exact h
            · have h := hI.2.2.1 p p0 (by simp [xa_up] at p1; omega)
              simp [xa_up]
              exact h
            · simp [xa_up]
              exact hI.2.2.2.1
          · intro (c6 : (M 60 6) = 16)
            show post (some (0, 0, (-1), (-1), (-1))) (xa_up M 60 21 0)
            exact k _ _ (by first | exact Or.inr ⟨by unfold lh_ok; omega, ⟨_, _, rfl⟩, rfl⟩ | exact Or.inl ⟨by unfold lh_ok; omega, ⟨_, _, rfl⟩, rfl⟩) (xm_Inv_cor (xm_cor_f (by omega) xm_cor_r) hI)
    · intro (i2 : ¬ (0 ≤ b ∧ b < (M 60 0)))
      show post (some (0, 0, (-1), (-1), (-1))) (xa_up M 60 21 0)
      exact k _ _ (by first | exact Or.inr ⟨by unfold lh_ok; omega, ⟨_, _, rfl⟩, rfl⟩ | exact Or.inl ⟨by unfold lh_ok; omega, ⟨_, _, rfl⟩, rfl⟩) (xm_Inv_cor (xm_cor_f (by omega) xm_cor_r) hI)
  · intro (i1 : ¬ (0 ≤ a ∧ a < (M 60 0)))
    show post (some (0, 0, (-1), (-1), (-1))) (xa_up M 60 21 0)
    exact k _ _ (by first | exact Or.inr ⟨by unfold lh_ok; omega, ⟨_, _, rfl⟩, rfl⟩ | exact Or.inl ⟨by unfold lh_ok; omega, ⟨_, _, rfl⟩, rfl⟩) (xm_Inv_cor (xm_cor_f (by omega) xm_cor_r) hI)
theorem iv_P_iff {ok ok' : Prop} {x y : Int} {U V : xa_M} {o : Option xa_V} {M1 : xa_M} (e : ok ↔ ok') (h : iv_P ok x U y V o M1) : iv_P ok' x U y V o M1 := by
  rcases h with ⟨h1, h2⟩ | ⟨h1, h2⟩
  · exact Or.inl ⟨e.mp h1, h2⟩
  · exact Or.inr ⟨fun h => h1 (e.mpr h), h2⟩
theorem iv_p36 (A : Nat → Nat) (cmp : Bool) : iv_pair (iv_J A) A 36 220 [0, 0] cmp false := iv_armP (fun W b h as M hJ hM hInv hs hR => by
  obtain ⟨m1, ys, rfl, -, hs⟩ := iv_spc hs
  obtain ⟨m2, ys, rfl, -, hs⟩ := iv_spc hs
  obtain rfl := iv_sp0 hs
  have b0 := xm_f0 (xa_H_Mok hM)
  have b6 := xm_f6 (xa_H_Mok hM)
  have r1 : iv_num h 1 9 = M 60 0 := hR.1.1
  have r2 : iv_num h 1 10 = M 60 6 := hR.1.2.1
  have r3 : ∀ i, 0 ≤ i → i < 14 → iv_num h 2 i = M 61 i ∧ iv_num h 3 i = M 62 i ∧ iv_num h 5 i = M 64 i ∧ iv_num h 6 i = M 65 i ∧ iv_num h 4 i = M 63 i := hR.1.2.2.1
  have r4 : ∀ i, 0 ≤ i → i < 16 → iv_num h 7 i = M 66 i ∧ iv_num h 8 i = M 67 i := hR.1.2.2.2
  have hS := hR.2
  have hMk := xa_H_Mok hM
  have hmk : ∀ k, 0 ≤ k → k < iv_num h 1 10 → (0 ≤ iv_num h 7 k ∧ iv_num h 7 k < 14) ∧ (0 ≤ iv_num h 8 k ∧ iv_num h 8 k < 14) := by
    intro k k0 k1
    rw [r2] at k1
    obtain ⟨g1, g2⟩ := r4 k k0 (by omega)
    have t1 := xm_t66 hMk k k0 (by omega)
    have t2 := xm_t67 hMk k k0 (by omega)
    omega
  have hc := cw_36 (b := b) (A := A) (h0 := h) (d := 55) (M := iv_num h) (l1 := -2147483648) (u1 := 2147483647) (l2 := -2147483648) (u2 := 2147483647) (x1 := m1.toInt) (x2 := m2.toInt) (by omega) (by omega) hmk (fun _ _ h => h)
  have emi : lm_mi (iv_num h) m1.toInt m2.toInt = lm_if (xm_meshed M m1.toInt m2.toInt) := by
    refine lm_ifc ?_
    constructor
    · rintro ⟨k, k0, k1, k2⟩
      rw [r2] at k1
      obtain ⟨g1, g2⟩ := r4 k k0 (by omega)
      refine ⟨k, k0, k1, ?_⟩
      unfold lm_m1 at k2
      rw [g1, g2] at k2
      rcases k2 with h | h
      · exact Or.inl h
      · exact Or.inr ⟨h.2, h.1⟩
    · rintro ⟨k, k0, k1, k2⟩
      obtain ⟨g1, g2⟩ := r4 k k0 (by omega)
      refine ⟨k, k0, by rw [r2]; exact k1, ?_⟩
      unfold lm_m1
      rw [g1, g2]
      rcases k2 with h | h
      · exact Or.inl h
      · exact Or.inr ⟨h.2, h.1⟩
  rw [emi, r1, r2] at hc
  have hc := xa_C_mono hc (fun o M1 hP => iv_P_iff (ok' := lh_ok (M 60 0) (M 60 6) (M 64 m1.toInt) (M 64 m2.toInt) (lm_if (xm_meshed M m1.toInt m2.toInt)) m1.toInt m2.toInt) (by
    unfold lh_ok
    by_cases c1 : 0 ≤ m1.toInt ∧ m1.toInt < M 60 0
    · by_cases c2 : 0 ≤ m2.toInt ∧ m2.toInt < M 60 0
      · have g1 := (r3 m1.toInt c1.1 (by omega)).2.2.1
        have g2 := (r3 m2.toInt c2.1 (by omega)).2.2.1
        rw [g1, g2]
      · constructor <;> (intro h; exact absurd h.2.1 c2)
    · constructor <;> (intro h; exact absurd h.1 c1)) hP)
  have hm := fun (h1 : g_H) => ms_meshF (A := A) (h0 := h1) (d := 57) (M := M) (l1 := -2147483648) (u1 := 2147483647) (l2 := -2147483648) (u2 := 2147483647) (a := m1.toInt) (b := m2.toInt) (post := fun o M2 => iv_P (lh_ok (M 60 0) (M 60 6) (M 64 m1.toInt) (M 64 m2.toInt) (lm_if (xm_meshed M m1.toInt m2.toInt)) m1.toInt m2.toInt) (M 60 6 + 1) _ (-1) _ o M2 ∧ xm_Inv M2) hInv (fun o M1 hP hI => ⟨hP, hI⟩)
  rw [xa_w32_id (n := M 60 6 + 1) (by omega) (by omega)] at hc
  refine ⟨[(2, 0, 0, 0, 0), (0, 0, -2147483648, 2147483647, m1.toInt), (0, 0, -2147483648, 2147483647, m2.toInt)], [(2, 60, 0, 0, 0), (0, 0, -2147483648, 2147483647, m1.toInt), (0, 0, -2147483648, 2147483647, m2.toInt)], _, _, _, _, _, _, _, ⟨rfl, iv_i m1, iv_i m2, trivial⟩, ⟨rfl, iv_i m1, iv_i m2, trivial⟩, hc, hm, fun hok => ⟨?_, fun z => ?_, fun z => ?_⟩, fun hok => ⟨?_, fun z => ?_, fun z => ?_⟩⟩
  · unfold lh_ok at hok
    refine ⟨⟨?_, ?_, fun i i0 i1 => ?_, fun i i0 i1 => ?_⟩, lm_S_k (fun q j hC => by unfold lm_CS at hC; rcases hC with ⟨rfl, rfl⟩ | ⟨rfl, rfl⟩ | ⟨rfl, rfl⟩ | ⟨rfl, j0, j1⟩ | ⟨rfl | rfl | rfl | rfl | rfl | rfl, j0, j1⟩ | ⟨rfl, rfl | rfl⟩ | ⟨rfl, j0, j1⟩ | ⟨rfl | rfl | rfl, j0, j1⟩ <;> simp [xj, xa_up]) hS⟩
    · simp [xj, xa_up]
      exact r1
    · simp [xj, xa_up]
    · simp [xj, xa_up]
      exact r3 i i0 i1
    · obtain ⟨g1, g2⟩ := r4 i i0 i1
      by_cases e : i = M 60 6
      · simp [xj, xa_up, e]
      · simp [xj, xa_up, e]
        exact ⟨g1, g2⟩
  · simp [xa_up]
  · simp [xa_up]
  · refine ⟨⟨?_, ?_, fun i i0 i1 => ?_, fun i i0 i1 => ?_⟩, lm_S_k (fun q j hC => by unfold lm_CS at hC; rcases hC with ⟨rfl, rfl⟩ | ⟨rfl, rfl⟩ | ⟨rfl, rfl⟩ | ⟨rfl, j0, j1⟩ | ⟨rfl | rfl | rfl | rfl | rfl | rfl, j0, j1⟩ | ⟨rfl, rfl | rfl⟩ | ⟨rfl, j0, j1⟩ | ⟨rfl | rfl | rfl, j0, j1⟩ <;> simp [xj, xa_up]) hS⟩
    · simp [xj, xa_up]
      exact r1
    · simp [xj, xa_up]
      exact r2
    · simp [xj, xa_up]
      exact r3 i i0 i1
    · simp [xj, xa_up]
      exact r4 i i0 i1
  · simp [xa_up]
  · simp [xa_up])
/-- the greater, the lesser -/
def la_max (x y : Int) : Int := if x ≤ y then y else x
def la_min (x y : Int) : Int := if x ≤ y then x else y
theorem la_max_eq {r x y : Int} (h : x ≤ r ∧ y ≤ r ∧ (r = x ∨ r = y)) : r = la_max x y := by
  unfold la_max
  split <;> omega
theorem la_min_eq {r x y : Int} (h : r ≤ x ∧ r ≤ y ∧ (r = x ∨ r = y)) : r = la_min x y := by
  unfold la_min
  split <;> omega
noncomputable def la_y (p : Prop) : Int := @ite _ p (Classical.propDecidable p) (-2) (-1)
theorem la_y1 {p : Prop} (h : p) : la_y p = -2 := by
  unfold la_y
  exact if_pos h
theorem la_y0 {p : Prop} (h : ¬ p) : la_y p = -1 := by
  unfold la_y
  exact if_neg h
def la_a (n w s t k : Int) : Prop := (0 ≤ w ∧ w < n) ∧ (1 ≤ s ∧ s ≤ 200) ∧ (1 ≤ t ∧ t ≤ 3600) ∧ (0 ≤ k ∧ k ≤ 100) ∧ k < t
def la_ok (n w s t k lo hi : Int) : Prop := la_a n w s t k ∧ lo ≤ hi
theorem cx_24 {b : Bool} {A : Nat → Nat} {h0 : g_H} {d : Nat} {M : xa_M} {post : Option xa_V → xa_M → Prop} {l0 u0 l1 u1 : Int} {x1 x2 : Int} (k1 : (x1 < x2) → post (some (1, 0, (-9223372036854775808), 9223372036854775807, x2)) M) (k2 : (x2 ≤ x1) → post (some (1, 0, (-9223372036854775808), 9223372036854775807, x1)) M) : xa_C (xl_I b) A h0 (d + 1) 24 [(1, 0, l0, u0, x1), (1, 0, l1, u1, x2)] M post := by
  refine xa_C_arg [(1, 0, (-9223372036854775808), 9223372036854775807, x1), (1, 0, (-9223372036854775808), 9223372036854775807, x2)] (xa_svL (fun _ _ _ _ => by omega) (xa_svL (fun _ _ _ _ => by omega) (xa_sv0))) ?_
  refine xa_meth (Q0 := (4, 3, false, 0, 0, 14)) (by decide +kernel) ⟨rfl, rfl⟩ (full := s_c_24) rfl rfl ?_
  intro hM hv Q hgo
  refine hgo.1 10 [] 0 _ _ _ ?_
  refine And.intro ?_ ?_
  · intro (c1 : x1 < x2)
    show post (some (1, 0, (-9223372036854775808), 9223372036854775807, x2)) M
    exact k1 c1
  · intro (c1 : x2 ≤ x1)
    show post (some (1, 0, (-9223372036854775808), 9223372036854775807, x1)) M
    exact k2 c1
theorem cx_26 {b : Bool} {A : Nat → Nat} {h0 : g_H} {d : Nat} {M : xa_M} {post : Option xa_V → xa_M → Prop} {l0 u0 l1 u1 : Int} {x1 x2 : Int} (k1 : (x2 < x1) → post (some (1, 0, (-9223372036854775808), 9223372036854775807, x2)) M) (k2 : (x1 ≤ x2) → post (some (1, 0, (-9223372036854775808), 9223372036854775807, x1)) M) : xa_C (xl_I b) A h0 (d + 1) 26 [(1, 0, l0, u0, x1), (1, 0, l1, u1, x2)] M post := by
  refine xa_C_arg [(1, 0, (-9223372036854775808), 9223372036854775807, x1), (1, 0, (-9223372036854775808), 9223372036854775807, x2)] (xa_svL (fun _ _ _ _ => by omega) (xa_svL (fun _ _ _ _ => by omega) (xa_sv0))) ?_
  refine xa_meth (Q0 := (4, 3, false, 0, 0, 14)) (by decide +kernel) ⟨rfl, rfl⟩ (full := s_c_26) rfl rfl ?_
  intro hM hv Q hgo
  refine hgo.1 10 [] 0 _ _ _ ?_
  refine And.intro ?_ ?_
  · intro (c1 : x2 < x1)
    show post (some (1, 0, (-9223372036854775808), 9223372036854775807, x2)) M
    exact k1 c1
  · intro (c1 : x1 ≤ x2)
    show post (some (1, 0, (-9223372036854775808), 9223372036854775807, x1)) M
    exact k2 c1
theorem cx_21p {b : Bool} {A : Nat → Nat} {h0 : g_H} {d : Nat} {M : xa_M} {post : Option xa_V → xa_M → Prop} {l0 u0 l1 u1 : Int} {x1 x2 : Int} (hi : Int) (h1 : 0 ≤ x1 ∧ x1 ≤ hi) (h2 : 0 < x2) (h3 : hi ≤ 1000000) (h4 : x2 ≤ 1000000) (k1 : (0 ≤ x1 / x2 ∧ x1 / x2 ≤ hi) → post (some (1, 0, 0, hi, x1 / x2)) M) : xa_C (xl_I b) A h0 (d + 1) 21 [(1, 0, l0, u0, x1), (1, 0, l1, u1, x2)] M post := by
  refine xa_C_arg [(1, 0, 0, 1000000, x1), (1, 0, 1, 1000000, x2)] (xa_svL (fun _ _ _ _ => by omega) (xa_svL (fun _ _ _ _ => by omega) xa_sv0)) (xa_C_wk ?_)
  refine xa_meth (Q0 := (4, 3, false, 0, 0, 11)) (by decide +kernel) ⟨rfl, rfl⟩ (full := s_c_21) rfl rfl ?_
  intro hM hv Q hgo
  refine hgo.1 11 [] 0 _ _ _ ?_
  show xa_wk post (some (1, 0, 0, 1000000, x1 / x2)) M
  have e9 : 0 ≤ x1 / x2 ∧ x1 / x2 ≤ hi := ⟨Int.ediv_nonneg (by omega) (by omega), Int.le_trans (Int.ediv_le_self _ (by omega)) h1.2⟩
  exact xa_wkL (x1 / x2) rfl (fun _ _ => e9) (k1 e9)
theorem cx_24L {b : Bool} {A : Nat → Nat} {h0 : g_H} {d : Nat} {M : xa_M} {post : Option xa_V → xa_M → Prop} {l0 u0 l1 u1 : Int} {x1 x2 : Int} (lo hi : Int) (h1 : lo ≤ x1 ∧ x1 ≤ hi) (h2 : lo ≤ x2 ∧ x2 ≤ hi) (k : ∀ r, lo ≤ r ∧ r ≤ hi → x1 ≤ r ∧ x2 ≤ r ∧ (r = x1 ∨ r = x2) → post (some (1, 0, lo, hi, r)) M) : xa_C (xl_I b) A h0 (d + 1) 24 [(1, 0, l0, u0, x1), (1, 0, l1, u1, x2)] M post :=
  xa_C_wk (cx_24 (fun c => xa_wkL x2 rfl (fun _ _ => by omega) (k x2 (by omega) (by omega))) (fun c => xa_wkL x1 rfl (fun _ _ => by omega) (k x1 (by omega) (by omega))))
theorem cx_26L {b : Bool} {A : Nat → Nat} {h0 : g_H} {d : Nat} {M : xa_M} {post : Option xa_V → xa_M → Prop} {l0 u0 l1 u1 : Int} {x1 x2 : Int} (lo hi : Int) (h1 : lo ≤ x1 ∧ x1 ≤ hi) (h2 : lo ≤ x2 ∧ x2 ≤ hi) (k : ∀ r, lo ≤ r ∧ r ≤ hi → r ≤ x1 ∧ r ≤ x2 ∧ (r = x1 ∨ r = x2) → post (some (1, 0, lo, hi, r)) M) : xa_C (xl_I b) A h0 (d + 1) 26 [(1, 0, l0, u0, x1), (1, 0, l1, u1, x2)] M post :=
  xa_C_wk (cx_26 (fun c0 => xa_wkL x2 rfl (fun _ _ => by omega) (k x2 (by omega) (by omega))) (fun c0 => xa_wkL x1 rfl (fun _ _ => by omega) (k x1 (by omega) (by omega))))
theorem cx_23_2 {b : Bool} {A : Nat → Nat} {h0 : g_H} {d : Nat} {M : xa_M} {post : Option xa_V → xa_M → Prop} {l1 u1 : Int} {i : Int} (h1 : 0 ≤ i ∧ i < 14) (k1 : post (some (0, 0, (-2147483648), 2147483647, M 2 i)) M) : xa_C (xl_I b) A h0 (d + 1) 23 [(2, 2, 0, 0, 0), (0, 0, l1, u1, i)] M post := by
  refine xa_C_arg [(2, 2, 0, 0, 0), (0, 0, (-2147483648), 2147483647, i)] (xa_svR (xa_svI (fun _ _ _ _ => by omega) xa_sv0)) ?_
  refine xa_meth (Q0 := (2, 1, false, 0, 0, 11)) (by decide +kernel) ⟨rfl, rfl⟩ (full := s_c_23) rfl rfl ?_
  intro hM hv Q hgo
  refine hgo.1 15 [] 0 _ _ _ ?_
  refine And.intro ?_ ?_
  · intro (c1 : i < 0)
    show post (some (0, 0, 0, 0, 0)) M
    exact absurd h1 (by omega)
  · intro (c1 : 0 ≤ i)
    refine And.intro ?_ ?_
    · intro (c2 : 14 ≤ i)
      show post (some (0, 0, 0, 0, 0)) M
      exact absurd h1 (by omega)
    · intro (c2 : i < 14)
      refine And.intro (show 0 ≤ i ∧ i < 14 by omega) ?_
      show post (some (0, 0, (-2147483648), 2147483647, M 2 i)) M
      exact k1
theorem cx_22_1 {b : Bool} {A : Nat → Nat} {h0 : g_H} {d : Nat} {M : xa_M} {post : Option xa_V → xa_M → Prop} {l1 u1 : Int} {x1 : Int} (h1 : 0 ≤ x1 ∧ x1 < 14) (k1 : post (some (0, 0, (-2147483648), 2147483647, M 2 x1)) M) : xa_C (xl_I b) A h0 (d + 2) 22 [(2, 1, 0, 0, 0), (0, 0, l1, u1, x1)] M post := by
  refine xa_C_arg [(2, 1, 0, 0, 0), (0, 0, (-2147483648), 2147483647, x1)] (xa_svR (xa_svI (fun _ _ _ _ => by omega) (xa_sv0))) ?_
  refine xa_meth (Q0 := (2, 1, false, 0, 0, 1)) (by decide +kernel) ⟨rfl, rfl⟩ (full := s_c_22) rfl rfl ?_
  intro hM hv Q hgo
  refine hgo.1 9 [] 0 _ _ _ ?_
  show xa_C (xl_I b) A h0 _ 23 [(2, 2, 0, 0, 0), (0, 0, (-2147483648), 2147483647, x1)] M _
  refine cx_23_2 (show 0 ≤ x1 ∧ x1 < 14 by omega) ?_
  show post (some (0, 0, (-2147483648), 2147483647, M 2 x1)) M
  exact k1
theorem cx_23_3 {b : Bool} {A : Nat → Nat} {h0 : g_H} {d : Nat} {M : xa_M} {post : Option xa_V → xa_M → Prop} {l1 u1 : Int} {i : Int} (h1 : 0 ≤ i ∧ i < 14) (k1 : post (some (0, 0, 0, 400, M 3 i)) M) : xa_C (xl_I b) A h0 (d + 1) 23 [(2, 3, 0, 0, 0), (0, 0, l1, u1, i)] M post := by
  refine xa_C_arg [(2, 3, 0, 0, 0), (0, 0, (-2147483648), 2147483647, i)] (xa_svR (xa_svI (fun _ _ _ _ => by omega) xa_sv0)) ?_
  refine xa_meth (Q0 := (2, 1, false, 0, 0, 11)) (by decide +kernel) ⟨rfl, rfl⟩ (full := s_c_23) rfl rfl ?_
  intro hM hv Q hgo
  refine hgo.1 15 [] 0 _ _ _ ?_
  refine And.intro ?_ ?_
  · intro (c1 : i < 0)
    show post (some (0, 0, 0, 0, 0)) M
    exact absurd h1 (by omega)
  · intro (c1 : 0 ≤ i)
    refine And.intro ?_ ?_
    · intro (c2 : 14 ≤ i)
      show post (some (0, 0, 0, 0, 0)) M
      exact absurd h1 (by omega)
    · intro (c2 : i < 14)
      refine And.intro (show 0 ≤ i ∧ i < 14 by omega) ?_
      show post (some (0, 0, 0, 400, M 3 i)) M
      exact k1
theorem cx_25_1 {b : Bool} {A : Nat → Nat} {h0 : g_H} {d : Nat} {M : xa_M} {post : Option xa_V → xa_M → Prop} {l1 u1 : Int} {x1 : Int} (h1 : 0 ≤ x1 ∧ x1 < 14) (k1 : post (some (0, 0, 0, 400, M 3 x1)) M) : xa_C (xl_I b) A h0 (d + 2) 25 [(2, 1, 0, 0, 0), (0, 0, l1, u1, x1)] M post := by
  refine xa_C_arg [(2, 1, 0, 0, 0), (0, 0, (-2147483648), 2147483647, x1)] (xa_svR (xa_svI (fun _ _ _ _ => by omega) (xa_sv0))) ?_
  refine xa_meth (Q0 := (2, 1, false, 0, 0, 1)) (by decide +kernel) ⟨rfl, rfl⟩ (full := s_c_25) rfl rfl ?_
  intro hM hv Q hgo
  refine hgo.1 9 [] 0 _ _ _ ?_
  show xa_C (xl_I b) A h0 _ 23 [(2, 3, 0, 0, 0), (0, 0, (-2147483648), 2147483647, x1)] M _
  refine cx_23_3 (show 0 ≤ x1 ∧ x1 < 14 by omega) ?_
  show post (some (0, 0, 0, 400, M 3 x1)) M
  exact k1
theorem cw_19 {b : Bool} {A : Nat → Nat} {h0 : g_H} {d : Nat} {M : xa_M} {post : Option xa_V → xa_M → Prop} {l1 u1 l2 u2 l3 u3 l4 u4 x1 x2 x3 x4 : Int} (h1 : 0 ≤ M 1 9 ∧ M 1 9 ≤ 14) (hr : 0 ≤ x1 → x1 < M 1 9 → (0 ≤ M 2 x1 ∧ M 2 x1 ≤ 400) ∧ (0 ≤ M 3 x1 ∧ M 3 x1 ≤ 400)) (k : ∀ o M1, iv_P (la_ok (M 1 9) x1 x2 x3 x4 (la_max ((((3600 * x2) + (x3 + x4)) - 1) / (x3 + x4)) (M 2 x1)) (la_min ((3600 * x2) / (x3 - x4)) (M 3 x1))) ((la_min ((3600 * x2) / (x3 - x4)) (M 3 x1)) - (la_max ((((3600 * x2) + (x3 + x4)) - 1) / (x3 + x4)) (M 2 x1)) + 1) (xa_up (xa_up (xa_up M 2 x1 (la_max ((((3600 * x2) + (x3 + x4)) - 1) / (x3 + x4)) (M 2 x1))) 3 x1 (la_min ((3600 * x2) / (x3 - x4)) (M 3 x1))) 4 x1 (la_max ((((3600 * x2) + (x3 + x4)) - 1) / (x3 + x4)) (M 2 x1))) (la_y (la_a (M 1 9) x1 x2 x3 x4)) M o M1 → post o M1) : xa_C (xl_I b) A h0 (d + 3) 19 [(2, 0, 0, 0, 0), (0, 0, l1, u1, x1), (0, 0, l2, u2, x2), (0, 0, l3, u3, x3), (0, 0, l4, u4, x4)] M post := by
  refine xa_C_arg [(2, 0, 0, 0, 0), (0, 0, (-2147483648), 2147483647, x1), (0, 0, (-2147483648), 2147483647, x2), (0, 0, (-2147483648), 2147483647, x3), (0, 0, (-2147483648), 2147483647, x4)] (xa_svR (xa_svI (fun _ _ _ _ => by omega) (xa_svI (fun _ _ _ _ => by omega) (xa_svI (fun _ _ _ _ => by omega) (xa_svI (fun _ _ _ _ => by omega) (xa_sv0)))))) ?_
  refine xa_meth (Q0 := (13, 1, false, 0, 0, 11)) (by decide +kernel) ⟨rfl, rfl⟩ (full := s_c_19) rfl rfl ?_
  intro hM hv Q hgo
  refine hgo.1 31 [57] 0 _ _ _ ?_
  show xa_C (xl_I b) A h0 _ 20 [(2, 1, 0, 0, 0), (0, 0, (-2147483648), 2147483647, x1)] M _
  refine cx_20_1 ?_ ?_ ?_
  · intro (i1 : x1 < 0)
    show post (some (0, 0, (-1), (-1), (-1))) M
    exact k _ _ (Or.inr ⟨by unfold la_ok la_a; omega, ⟨-1, -1, by rw [la_y0 (by unfold la_a; omega)]⟩, rfl⟩)
  · intro (i2 : 0 ≤ x1) (i3 : (M 1 9) ≤ x1)
    show post (some (0, 0, (-1), (-1), (-1))) M
    exact k _ _ (Or.inr ⟨by unfold la_ok la_a; omega, ⟨-1, -1, by rw [la_y0 (by unfold la_a; omega)]⟩, rfl⟩)
  · intro (i4 : 0 ≤ x1) (i5 : x1 < (M 1 9))
    refine And.intro ?_ ?_
    · intro (c6 : x2 < 1)
      show post (some (0, 0, (-1), (-1), (-1))) M
      exact k _ _ (Or.inr ⟨by unfold la_ok la_a; omega, ⟨-1, -1, by rw [la_y0 (by unfold la_a; omega)]⟩, rfl⟩)
    · intro (c6 : 1 ≤ x2)
      refine And.intro ?_ ?_
      · intro (c7 : 200 < x2)
        show post (some (0, 0, (-1), (-1), (-1))) M
        exact k _ _ (Or.inr ⟨by unfold la_ok la_a; omega, ⟨-1, -1, by rw [la_y0 (by unfold la_a; omega)]⟩, rfl⟩)
      · intro (c7 : x2 ≤ 200)
        refine And.intro ?_ ?_
        · intro (c8 : x3 < 1)
          show post (some (0, 0, (-1), (-1), (-1))) M
          exact k _ _ (Or.inr ⟨by unfold la_ok la_a; omega, ⟨-1, -1, by rw [la_y0 (by unfold la_a; omega)]⟩, rfl⟩)
        · intro (c8 : 1 ≤ x3)
          refine And.intro ?_ ?_
          · intro (c9 : x3 ≤ 3600)
            refine And.intro ?_ ?_
            · intro (c10 : x4 < 0)
              show post (some (0, 0, (-1), (-1), (-1))) M
              exact k _ _ (Or.inr ⟨by unfold la_ok la_a; omega, ⟨-1, -1, by rw [la_y0 (by unfold la_a; omega)]⟩, rfl⟩)
            · intro (c10 : 0 ≤ x4)
              refine And.intro ?_ ?_
              · intro (c11 : 100 < x4)
                show post (some (0, 0, (-1), (-1), (-1))) M
                exact k _ _ (Or.inr ⟨by unfold la_ok la_a; omega, ⟨-1, -1, by rw [la_y0 (by unfold la_a; omega)]⟩, rfl⟩)
              · intro (c11 : x4 ≤ 100)
                refine And.intro ?_ ?_
                · intro (c12 : x4 < x3)
                  show Q 57 [(0, (2, 0, 0, 0, 0)), (1, (0, 0, (-2147483648), 2147483647, x1)), (2, (0, 0, (-2147483648), 2147483647, x2)), (3, (0, 0, (-2147483648), 2147483647, x3)), (4, (0, 0, (-2147483648), 2147483647, x4))] [] M
                  refine hgo.2.1 57 _ [(0, (2, 0, 0, 0, 0)), (1, (0, 0, 0, 13, x1)), (2, (0, 0, 1, 200, x2)), (3, (0, 0, 1, 3600, x3)), (4, (0, 0, 0, 100, x4))] _ _ (xa_subR rfl (xa_subI rfl rfl (fun _ _ _ _ => by omega) (xa_subI rfl rfl (fun _ _ _ _ => by omega) (xa_subI rfl rfl (fun _ _ _ _ => by omega) (xa_subI rfl rfl (fun _ _ _ _ => by omega) (xa_sub0)))))) ?_
                  refine hgo.1 63 [] 57 _ _ _ ?_
                  show xa_C (xl_I b) A h0 _ 21 [(1, 0, 3600, 723699, ((3600 * x2) + (x3 + x4)) - 1), (1, 0, 1, 3700, x3 + x4)] M _
                  refine cx_21p 723699 (show 0 ≤ (((3600 * x2) + (x3 + x4)) - 1) ∧ (((3600 * x2) + (x3 + x4)) - 1) ≤ 723699 by omega) (show 0 < (x3 + x4) by omega) (by decide) (show (x3 + x4) ≤ 1000000 by omega) ?_
                  intro (i213 : 0 ≤ (((3600 * x2) + (x3 + x4)) - 1) / (x3 + x4) ∧ (((3600 * x2) + (x3 + x4)) - 1) / (x3 + x4) ≤ 723699)
                  show xa_C (xl_I b) A h0 _ 21 [(1, 0, 3600, 720000, 3600 * x2), (1, 0, (-99), 3600, x3 - x4)] M _
                  refine cx_21p 720000 (show 0 ≤ (3600 * x2) ∧ (3600 * x2) ≤ 720000 by omega) (show 0 < (x3 - x4) by omega) (by decide) (show (x3 - x4) ≤ 1000000 by omega) ?_
                  intro (i214 : 0 ≤ (3600 * x2) / (x3 - x4) ∧ (3600 * x2) / (x3 - x4) ≤ 720000)
                  show xa_C (xl_I b) A h0 _ 22 [(2, 1, 0, 0, 0), (0, 0, 0, 13, x1)] M _
                  refine cx_22_1 (show 0 ≤ x1 ∧ x1 < 14 by omega) ?_
                  show xa_C (xl_I b) A h0 _ 24 [(1, 0, 0, 723699, (((3600 * x2) + (x3 + x4)) - 1) / (x3 + x4)), (1, 0, (-2147483648), 2147483647, M 2 x1)] M _
                  refine cx_24L (-2147483648) 2147483647 (show (-2147483648) ≤ ((((3600 * x2) + (x3 + x4)) - 1) / (x3 + x4)) ∧ ((((3600 * x2) + (x3 + x4)) - 1) / (x3 + x4)) ≤ 2147483647 by omega) (show (-2147483648) ≤ (M 2 x1) ∧ (M 2 x1) ≤ 2147483647 by omega) ?_
                  intro r101 (i215 : (-2147483648) ≤ r101 ∧ r101 ≤ 2147483647) (i216 : ((((3600 * x2) + (x3 + x4)) - 1) / (x3 + x4)) ≤ r101 ∧ (M 2 x1) ≤ r101 ∧ (r101 = (((3600 * x2) + (x3 + x4)) - 1) / (x3 + x4) ∨ r101 = M 2 x1))
                  show xa_C (xl_I b) A h0 _ 25 [(2, 1, 0, 0, 0), (0, 0, 0, 13, x1)] M _
                  refine cx_25_1 (show 0 ≤ x1 ∧ x1 < 14 by omega) ?_
                  show xa_C (xl_I b) A h0 _ 26 [(1, 0, 0, 720000, (3600 * x2) / (x3 - x4)), (1, 0, 0, 400, M 3 x1)] M _
                  refine cx_26L 0 720000 (show 0 ≤ ((3600 * x2) / (x3 - x4)) ∧ ((3600 * x2) / (x3 - x4)) ≤ 720000 by omega) (show 0 ≤ (M 3 x1) ∧ (M 3 x1) ≤ 720000 by omega) ?_
                  intro r102 (i217 : 0 ≤ r102 ∧ r102 ≤ 720000) (i218 : r102 ≤ ((3600 * x2) / (x3 - x4)) ∧ r102 ≤ (M 3 x1) ∧ (r102 = (3600 * x2) / (x3 - x4) ∨ r102 = M 3 x1))
                  refine And.intro ?_ ?_
                  · intro (c219 : r101 ≤ r102)
                    show xa_C (xl_I b) A h0 _ 17 [(2, 1, 0, 0, 0), (0, 0, 0, 13, x1), (0, 0, (-2147483648), 2147483647, r101), (0, 0, 0, 720000, r102)] M _
                    refine cx_17_1 (show 0 ≤ x1 ∧ x1 < 14 by omega) (show 0 ≤ r102 ∧ r102 ≤ 400 by omega) ?_
                    show post (some (0, 0, (-2147483648), 2147483647, xa_w32 ((xa_w32 (r102 - r101)) + 1))) (xa_up (xa_up (xa_up M 2 x1 r101) 3 x1 r102) 4 x1 r101)
                    rw [xa_w32_id (n := r102 - r101) (by omega) (by omega), xa_w32_id (n := (r102 - r101) + 1) (by omega) (by omega)]
                    obtain rfl : r101 = la_max ((((3600 * x2) + (x3 + x4)) - 1) / (x3 + x4)) (M 2 x1) := la_max_eq (by omega)
                    obtain rfl : r102 = la_min ((3600 * x2) / (x3 - x4)) (M 3 x1) := la_min_eq (by omega)
                    exact k _ _ (Or.inl ⟨by unfold la_ok la_a; omega, ⟨_, _, rfl⟩, rfl⟩)
                  · intro (c219 : r102 < r101)
                    show post (some (0, 0, (-2), (-2), (-2))) M
                    obtain rfl : r101 = la_max ((((3600 * x2) + (x3 + x4)) - 1) / (x3 + x4)) (M 2 x1) := la_max_eq (by omega)
                    obtain rfl : r102 = la_min ((3600 * x2) / (x3 - x4)) (M 3 x1) := la_min_eq (by omega)
                    exact k _ _ (Or.inr ⟨by unfold la_ok la_a; omega, ⟨-2, -2, by rw [la_y1 (by unfold la_a; omega)]⟩, rfl⟩)
                · intro (c12 : x3 ≤ x4)
                  show post (some (0, 0, (-1), (-1), (-1))) M
                  exact k _ _ (Or.inr ⟨by unfold la_ok la_a; omega, ⟨-1, -1, by rw [la_y0 (by unfold la_a; omega)]⟩, rfl⟩)
          · intro (c9 : 3600 < x3)
            show post (some (0, 0, (-1), (-1), (-1))) M
            exact k _ _ (Or.inr ⟨by unfold la_ok la_a; omega, ⟨-1, -1, by rw [la_y0 (by unfold la_a; omega)]⟩, rfl⟩)
theorem ms_arcF {A : Nat → Nat} {h0 : g_H} {d : Nat} {M : xa_M} {post : Option xa_V → xa_M → Prop} {l1 u1 l2 u2 l3 u3 l4 u4 : Int} {a b c e : Int} (hI : xm_Inv M) (k : ∀ (o : Option xa_V) (M1 : xa_M), iv_P (la_ok (M 60 0) a b c e (la_max (((((3600 * b) + c) + e) - 1) / (c + e)) (M 61 a)) (la_min ((3600 * b) / (c - e)) (M 62 a))) ((la_min ((3600 * b) / (c - e)) (M 62 a)) - (la_max (((((3600 * b) + c) + e) - 1) / (c + e)) (M 61 a)) + 1) (xa_up (xa_up (xa_up (xa_up M 60 21 0) 61 a (la_max (((((3600 * b) + c) + e) - 1) / (c + e)) (M 61 a))) 62 a (la_min ((3600 * b) / (c - e)) (M 62 a))) 63 a (la_max (((((3600 * b) + c) + e) - 1) / (c + e)) (M 61 a))) (la_y (la_a (M 60 0) a b c e)) (xa_up M 60 21 0) o M1 → xm_Inv M1 → post o M1) : xa_C xm_I A h0 (d + 3) 216 [(2, 60, 0, 0, 0), (0, 0, l1, u1, a), (0, 0, l2, u2, b), (0, 0, l3, u3, c), (0, 0, l4, u4, e)] M post := by
  refine xa_C_arg [(2, 60, 0, 0, 0), (0, 0, (-2147483648), 2147483647, a), (0, 0, (-2147483648), 2147483647, b), (0, 0, (-2147483648), 2147483647, c), (0, 0, (-2147483648), 2147483647, e)] (xa_svR (xa_svI (fun _ _ _ _ => by omega) (xa_svI (fun _ _ _ _ => by omega) (xa_svI (fun _ _ _ _ => by omega) (xa_svI (fun _ _ _ _ => by omega) xa_sv0))))) ?_
  refine xa_meth (Q0 := (7, 1, false, 0, 0, 12)) (by decide +kernel) ⟨rfl, rfl⟩ (full := s_c_216) rfl rfl ?_
  intro hM hv Q hgo
  have b0 := xm_f0 hM
  have b6 := xm_f6 hM
  have ta : 0 ≤ a → a < 14 → (0 ≤ M 61 a ∧ M 61 a ≤ 400) ∧ (0 ≤ M 62 a ∧ M 62 a ≤ 400) := fun h1 h2 => ⟨xm_t61 hM a h1 h2, xm_t62 hM a h1 h2⟩
  have ha : 0 ≤ a → a < M 60 0 → 10 ≤ M 61 a ∧ M 61 a ≤ M 62 a ∧ 10 ≤ M 63 a := hI.1 a
  refine hgo.1 31 [54] 0 _ _ _ ?_
  show xa_C xm_I A h0 _ 217 [(2, 60, 0, 0, 0), (0, 0, (-2147483648), 2147483647, a)] (xa_up M 60 21 0) _
  refine ct_isWheel ?_ ?_
  · intro (i1 : 0 ≤ a ∧ a < (M 60 0))
    show xa_C xm_I A h0 _ 214 [(0, 0, (-2147483648), 2147483647, b), (0, 0, 1, 1, 1), (0, 0, 200, 200, 200)] (xa_up M 60 21 0) _
    refine ct_in ?_ ?_
    · intro (i2 : 1 ≤ b ∧ b ≤ 200)
      show xa_C xm_I A h0 _ 214 [(0, 0, (-2147483648), 2147483647, c), (0, 0, 1, 1, 1), (0, 0, 3600, 3600, 3600)] (xa_up M 60 21 0) _
      refine ct_in ?_ ?_
      · intro (i3 : 1 ≤ c ∧ c ≤ 3600)
        show xa_C xm_I A h0 _ 214 [(0, 0, (-2147483648), 2147483647, e), (0, 0, 0, 0, 0), (0, 0, 100, 100, 100)] (xa_up M 60 21 0) _
        refine ct_in ?_ ?_
        · intro (i4 : 0 ≤ e ∧ e ≤ 100)
          refine And.intro ?_ ?_
          · intro (c5 : e < c)
            show Q 54 [(0, (2, 60, 0, 0, 0)), (1, (0, 0, (-2147483648), 2147483647, a)), (2, (0, 0, (-2147483648), 2147483647, b)), (3, (0, 0, (-2147483648), 2147483647, c)), (4, (0, 0, (-2147483648), 2147483647, e))] [] (xa_up M 60 21 0)
            refine hgo.2.1 54 _ [(0, (2, 60, 0, 0, 0)), (1, (0, 0, 0, 13, a)), (2, (0, 0, 1, 200, b)), (3, (0, 0, 1, 3600, c)), (4, (0, 0, 0, 100, e))] _ _ (xa_subR rfl (xa_subI rfl rfl (fun _ _ _ _ => by omega) (xa_subI rfl rfl (fun _ _ _ _ => by omega) (xa_subI rfl rfl (fun _ _ _ _ => by omega) (xa_subI rfl rfl (fun _ _ _ _ => by omega) xa_sub0))))) ?_
            refine hgo.1 60 [] 54 _ _ _ ?_
            show xa_C xm_I A h0 _ 35 [(0, 0, 0, 400, M 61 a), (0, 0, 0, 723699, ((((3600 * b) + c) + e) - 1) / (c + e))] (xa_up M 60 21 0) _
            refine ct_max 0 723699 (by decide) (by decide) (by decide) (fun r106 br106 er106 => ?_)
            refine And.intro (show 0 < (c - e) by omega) ?_
            show xa_C xm_I A h0 _ 32 [(0, 0, 0, 400, M 62 a), (0, 0, 0, 720000, (3600 * b) / (c - e))] (xa_up M 60 21 0) _
            refine ct_min 0 400 (by decide) (by decide) (by decide) (fun r107 br107 er107 => ?_)
            refine And.intro ?_ ?_
            · intro (c108 : r106 ≤ r107)
              refine And.intro (show 0 ≤ r106 ∧ r106 ≤ 400 by omega) ?_
              refine And.intro (show 0 ≤ r106 ∧ r106 ≤ 400 by omega) ?_
              show post (some (0, 0, (-723698), 401, (r107 - r106) + 1)) (xa_up (xa_up (xa_up (xa_up M 60 21 0) 61 a r106) 62 a r107) 63 a r106)
              have e106 : r106 = la_max (((((3600 * b) + c) + e) - 1) / (c + e)) (M 61 a) := la_max_eq (by omega)
              have e107 : r107 = la_min ((3600 * b) / (c - e)) (M 62 a) := la_min_eq (by omega)
              refine k _ _ (Or.inl ⟨by unfold la_ok la_a; omega, ⟨(-723698), 401, by rw [← e106, ← e107]⟩, by rw [← e106, ← e107]⟩) (xm_Inv_b (M := M) (fun j => by simp [xa_up]) (fun j => by simp [xa_up]) hI (fun w w0 w1 => ?_) (fun m m0 m1 => ?_) (fun p p0 p1 => ?_) ?_)
              · have h := hI.1 w w0 (by simp [xa_up] at w1; omega)
                by_cases e : w = a
                · subst e
                  simp [xa_up]
                  omega
                · simp [xa_up, e]
                  exact h
              · have h := hI.2.1 m m0 (by simp [xa_up] at m1; omega)
                simp [xa_up]
                exact h
              · have h := hI.2.2.1 p p0 (by simp [xa_up] at p1; omega)
                simp [xa_up]
                exact h
              · simp [xa_up]
                exact hI.2.2.2.1
            · intro (c108 : r107 < r106)
              show post (some (0, 0, (-2), (-2), (-2))) (xa_up M 60 21 0)
              have e106 : r106 = la_max (((((3600 * b) + c) + e) - 1) / (c + e)) (M 61 a) := la_max_eq (by omega)
              have e107 : r107 = la_min ((3600 * b) / (c - e)) (M 62 a) := la_min_eq (by omega)
              exact k _ _ (Or.inr ⟨by unfold la_ok la_a; omega, ⟨-2, -2, by rw [la_y1 (by unfold la_a; omega)]⟩, rfl⟩) (xm_Inv_cor (xm_cor_f (by omega) xm_cor_r) hI)
          · intro (c5 : c ≤ e)
            show post (some (0, 0, (-1), (-1), (-1))) (xa_up M 60 21 0)
            exact k _ _ (Or.inr ⟨by unfold la_ok la_a; omega, ⟨-1, -1, by rw [la_y0 (by unfold la_a; omega)]⟩, rfl⟩) (xm_Inv_cor (xm_cor_f (by omega) xm_cor_r) hI)
        · intro (i4 : ¬ (0 ≤ e ∧ e ≤ 100))
          show post (some (0, 0, (-1), (-1), (-1))) (xa_up M 60 21 0)
          exact k _ _ (Or.inr ⟨by unfold la_ok la_a; omega, ⟨-1, -1, by rw [la_y0 (by unfold la_a; omega)]⟩, rfl⟩) (xm_Inv_cor (xm_cor_f (by omega) xm_cor_r) hI)
      · intro (i3 : ¬ (1 ≤ c ∧ c ≤ 3600))
        show post (some (0, 0, (-1), (-1), (-1))) (xa_up M 60 21 0)
        exact k _ _ (Or.inr ⟨by unfold la_ok la_a; omega, ⟨-1, -1, by rw [la_y0 (by unfold la_a; omega)]⟩, rfl⟩) (xm_Inv_cor (xm_cor_f (by omega) xm_cor_r) hI)
    · intro (i2 : ¬ (1 ≤ b ∧ b ≤ 200))
      show post (some (0, 0, (-1), (-1), (-1))) (xa_up M 60 21 0)
      exact k _ _ (Or.inr ⟨by unfold la_ok la_a; omega, ⟨-1, -1, by rw [la_y0 (by unfold la_a; omega)]⟩, rfl⟩) (xm_Inv_cor (xm_cor_f (by omega) xm_cor_r) hI)
  · intro (i1 : ¬ (0 ≤ a ∧ a < (M 60 0)))
    show post (some (0, 0, (-1), (-1), (-1))) (xa_up M 60 21 0)
    exact k _ _ (Or.inr ⟨by unfold la_ok la_a; omega, ⟨-1, -1, by rw [la_y0 (by unfold la_a; omega)]⟩, rfl⟩) (xm_Inv_cor (xm_cor_f (by omega) xm_cor_r) hI)
theorem iv_P_no {ok ok' : Prop} {x x' y : Int} {U U' V : xa_M} {o : Option xa_V} {M1 : xa_M} (h1 : ¬ ok) (h2 : ¬ ok') (h : iv_P ok x U y V o M1) : iv_P ok' x' U' y V o M1 := by
  rcases h with ⟨h3, -⟩ | ⟨-, h4⟩
  · exact absurd h3 h1
  · exact Or.inr ⟨h2, h4⟩
theorem iv_p19 (A : Nat → Nat) (cmp : Bool) : iv_pair (iv_J A) A 19 216 [0, 0, 0, 0] cmp false := iv_armP (fun W b h as M hJ hM hInv hs hR => by
  obtain ⟨m1, ys, rfl, -, hs⟩ := iv_spc hs
  obtain ⟨m2, ys, rfl, -, hs⟩ := iv_spc hs
  obtain ⟨m3, ys, rfl, -, hs⟩ := iv_spc hs
  obtain ⟨m4, ys, rfl, -, hs⟩ := iv_spc hs
  obtain rfl := iv_sp0 hs
  have b0 := xm_f0 (xa_H_Mok hM)
  have b6 := xm_f6 (xa_H_Mok hM)
  have r1 : iv_num h 1 9 = M 60 0 := hR.1.1
  have r2 : iv_num h 1 10 = M 60 6 := hR.1.2.1
  have r3 : ∀ i, 0 ≤ i → i < 14 → iv_num h 2 i = M 61 i ∧ iv_num h 3 i = M 62 i ∧ iv_num h 5 i = M 64 i ∧ iv_num h 6 i = M 65 i ∧ iv_num h 4 i = M 63 i := hR.1.2.2.1
  have r4 : ∀ i, 0 ≤ i → i < 16 → iv_num h 7 i = M 66 i ∧ iv_num h 8 i = M 67 i := hR.1.2.2.2
  have hS := hR.2
  have hMk := xa_H_Mok hM
  have hc0 := cw_19 (b := b) (A := A) (h0 := h) (d := 57) (M := iv_num h) (l1 := -2147483648) (u1 := 2147483647) (l2 := -2147483648) (u2 := 2147483647) (l3 := -2147483648) (u3 := 2147483647) (l4 := -2147483648) (u4 := 2147483647) (x1 := m1.toInt) (x2 := m2.toInt) (x3 := m3.toInt) (x4 := m4.toInt) (by omega) (fun c0 c1 => by
    rw [r1] at c1
    obtain ⟨g1, g2, -, -⟩ := r3 m1.toInt c0 (by omega)
    rw [g1, g2]
    exact ⟨xm_t61 hMk _ c0 (by omega), xm_t62 hMk _ c0 (by omega)⟩) (fun _ _ h => h)
  have ex : ((3600 * m2.toInt) + (m3.toInt + m4.toInt) - 1) / (m3.toInt + m4.toInt) = ((((3600 * m2.toInt) + m3.toInt) + m4.toInt) - 1) / (m3.toInt + m4.toInt) := congrArg (· / (m3.toInt + m4.toInt)) (show (3600 * m2.toInt) + (m3.toInt + m4.toInt) - 1 = (((3600 * m2.toInt) + m3.toInt) + m4.toInt) - 1 by omega)
  have hc : xa_C (xl_I b) A h 60 19 [(2, 0, 0, 0, 0), (0, 0, -2147483648, 2147483647, m1.toInt), (0, 0, -2147483648, 2147483647, m2.toInt), (0, 0, -2147483648, 2147483647, m3.toInt), (0, 0, -2147483648, 2147483647, m4.toInt)] (iv_num h) (iv_P (la_ok (M 60 0) m1.toInt m2.toInt m3.toInt m4.toInt (la_max (((((3600 * m2.toInt) + m3.toInt) + m4.toInt) - 1) / (m3.toInt + m4.toInt)) (M 61 m1.toInt)) (la_min ((3600 * m2.toInt) / (m3.toInt - m4.toInt)) (M 62 m1.toInt))) ((la_min ((3600 * m2.toInt) / (m3.toInt - m4.toInt)) (M 62 m1.toInt)) - (la_max (((((3600 * m2.toInt) + m3.toInt) + m4.toInt) - 1) / (m3.toInt + m4.toInt)) (M 61 m1.toInt)) + 1) (xa_up (xa_up (xa_up (iv_num h) 2 m1.toInt (la_max (((((3600 * m2.toInt) + m3.toInt) + m4.toInt) - 1) / (m3.toInt + m4.toInt)) (M 61 m1.toInt))) 3 m1.toInt (la_min ((3600 * m2.toInt) / (m3.toInt - m4.toInt)) (M 62 m1.toInt))) 4 m1.toInt (la_max (((((3600 * m2.toInt) + m3.toInt) + m4.toInt) - 1) / (m3.toInt + m4.toInt)) (M 61 m1.toInt))) (la_y (la_a (M 60 0) m1.toInt m2.toInt m3.toInt m4.toInt)) (iv_num h)) := by
    by_cases c1 : 0 ≤ m1.toInt ∧ m1.toInt < 14
    · obtain ⟨g1, g2, -, -⟩ := r3 m1.toInt c1.1 c1.2
      rw [r1, g1, g2, ex] at hc0
      exact hc0
    · rw [r1] at hc0
      exact xa_C_mono hc0 (fun o M1 hP => iv_P_no (fun h => c1 ⟨h.1.1.1, by have := h.1.1.2; omega⟩) (fun h => c1 ⟨h.1.1.1, by have := h.1.1.2; omega⟩) hP)
  have hm := fun (h1 : g_H) => ms_arcF (A := A) (h0 := h1) (d := 57) (M := M) (l1 := -2147483648) (u1 := 2147483647) (l2 := -2147483648) (u2 := 2147483647) (l3 := -2147483648) (u3 := 2147483647) (l4 := -2147483648) (u4 := 2147483647) (a := m1.toInt) (b := m2.toInt) (c := m3.toInt) (e := m4.toInt) (post := fun o M2 => iv_P (la_ok (M 60 0) m1.toInt m2.toInt m3.toInt m4.toInt (la_max (((((3600 * m2.toInt) + m3.toInt) + m4.toInt) - 1) / (m3.toInt + m4.toInt)) (M 61 m1.toInt)) (la_min ((3600 * m2.toInt) / (m3.toInt - m4.toInt)) (M 62 m1.toInt))) ((la_min ((3600 * m2.toInt) / (m3.toInt - m4.toInt)) (M 62 m1.toInt)) - (la_max (((((3600 * m2.toInt) + m3.toInt) + m4.toInt) - 1) / (m3.toInt + m4.toInt)) (M 61 m1.toInt)) + 1) _ (la_y (la_a (M 60 0) m1.toInt m2.toInt m3.toInt m4.toInt)) _ o M2 ∧ xm_Inv M2) hInv (fun o M1 hP hI => ⟨hP, hI⟩)
  refine ⟨[(2, 0, 0, 0, 0), (0, 0, -2147483648, 2147483647, m1.toInt), (0, 0, -2147483648, 2147483647, m2.toInt), (0, 0, -2147483648, 2147483647, m3.toInt), (0, 0, -2147483648, 2147483647, m4.toInt)], [(2, 60, 0, 0, 0), (0, 0, -2147483648, 2147483647, m1.toInt), (0, 0, -2147483648, 2147483647, m2.toInt), (0, 0, -2147483648, 2147483647, m3.toInt), (0, 0, -2147483648, 2147483647, m4.toInt)], _, _, _, _, _, _, _, ⟨rfl, iv_i m1, iv_i m2, iv_i m3, iv_i m4, trivial⟩, ⟨rfl, iv_i m1, iv_i m2, iv_i m3, iv_i m4, trivial⟩, hc, hm, fun hok => ⟨?_, fun z => ?_, fun z => ?_⟩, fun hok => ⟨?_, fun z => ?_, fun z => ?_⟩⟩
  · refine ⟨⟨?_, ?_, fun i i0 i1 => ?_, fun i i0 i1 => ?_⟩, lm_S_k (fun q j hC => by unfold lm_CS at hC; rcases hC with ⟨rfl, rfl⟩ | ⟨rfl, rfl⟩ | ⟨rfl, rfl⟩ | ⟨rfl, j0, j1⟩ | ⟨rfl | rfl | rfl | rfl | rfl | rfl, j0, j1⟩ | ⟨rfl, rfl | rfl⟩ | ⟨rfl, j0, j1⟩ | ⟨rfl | rfl | rfl, j0, j1⟩ <;> simp [xj, xa_up]) hS⟩
    · simp [xj, xa_up]
      exact r1
    · simp [xj, xa_up]
      exact r2
    · obtain ⟨g1, g2, g3, g4⟩ := r3 i i0 i1
      by_cases e : i = m1.toInt
      · subst e
        simp [xj, xa_up]
        exact ⟨g3, g4.1⟩
      · simp [xj, xa_up, e]
        exact ⟨g1, g2, g3, g4⟩
    · simp [xj, xa_up]
      exact r4 i i0 i1
  · simp [xa_up]
  · simp [xa_up]
  · refine ⟨⟨?_, ?_, fun i i0 i1 => ?_, fun i i0 i1 => ?_⟩, lm_S_k (fun q j hC => by unfold lm_CS at hC; rcases hC with ⟨rfl, rfl⟩ | ⟨rfl, rfl⟩ | ⟨rfl, rfl⟩ | ⟨rfl, j0, j1⟩ | ⟨rfl | rfl | rfl | rfl | rfl | rfl, j0, j1⟩ | ⟨rfl, rfl | rfl⟩ | ⟨rfl, j0, j1⟩ | ⟨rfl | rfl | rfl, j0, j1⟩ <;> simp [xj, xa_up]) hS⟩
    · simp [xj, xa_up]
      exact r1
    · simp [xj, xa_up]
      exact r2
    · simp [xj, xa_up]
      exact r3 i i0 i1
    · simp [xj, xa_up]
      exact r4 i i0 i1
  · simp [xa_up]
  · simp [xa_up])
