-- of (made by wip/u/mkof.py)
set_option maxRecDepth 20000
/-- a number whose bits are those that P names -/
def of_B (P : Nat → Prop) (r : Int) : Prop := r = (Int32.ofInt r).toInt ∧ ∀ w : Nat, w < 32 → ((Int32.ofInt r).toBitVec.getLsbD w = true ↔ P w)
theorem of_Bu {P : Nat → Prop} {a b : Int} (h : of_B P a) (h2 : of_B P b) : a = b := by
  refine h.1.trans ((congrArg Int32.toInt (Int32.toBitVec_inj.mp (BitVec.eq_of_getLsbD_eq (fun w hw => ?_)))).trans h2.1.symm)
  have e := (h.2 w hw).trans (h2.2 w hw).symm
  exact Bool.eq_iff_iff.mpr e
theorem of_Bc {P Q : Nat → Prop} {a : Int} (h : of_B P a) (e : ∀ w : Nat, w < 32 → (P w ↔ Q w)) : of_B Q a := ⟨h.1, fun w hw => (h.2 w hw).trans (e w hw)⟩
theorem of_B0 : of_B (fun w => (w : Int) = -1) 0 := by
  refine ⟨rfl, fun w hw => ?_⟩
  rw [show (Int32.ofInt 0).toBitVec = 0#32 from rfl, BitVec.getLsbD_zero]
  exact ⟨fun h => absurd h (by decide), fun h => by omega⟩
theorem of_Bz (z : Int32) : z.toInt = (Int32.ofInt z.toInt).toInt := by rw [Int32.ofInt_toInt]
theorem of_Bor {P Q : Nat → Prop} {a b : Int} (h : of_B P a) (h2 : of_B Q b) : of_B (fun w => P w ∨ Q w) (xa_ib 4 a b) := by
  have e : xa_ib 4 a b = (Int32.ofInt a ||| Int32.ofInt b).toInt := rfl
  rw [e]
  refine ⟨of_Bz _, fun w hw => ?_⟩
  rw [Int32.ofInt_toInt, Int32.toBitVec_or, BitVec.getLsbD_or, Bool.or_eq_true, h.2 w hw, h2.2 w hw]
theorem of_Bsh {k : Int} (k0 : 0 ≤ k) (k1 : k < 14) : of_B (fun w => (w : Int) = k) (xa_ib 6 1 k) := by
  have e : xa_ib 6 1 k = (Int32.ofInt 1 <<< (Int32.ofInt k &&& 31)).toInt := rfl
  rw [e]
  refine ⟨of_Bz _, fun w hw => ?_⟩
  rw [Int32.ofInt_toInt]
  have key : (List.range 14).all (fun k => (List.range 32).all (fun w => (Int32.ofInt 1 <<< (Int32.ofInt (k : Int) &&& 31)).toBitVec.getLsbD w == (k == w))) = true := by decide +kernel
  have h := List.all_eq_true.mp (List.all_eq_true.mp key k.toNat (List.mem_range.mpr (by omega))) w (List.mem_range.mpr hw)
  rw [Int.toNat_of_nonneg k0, beq_iff_eq] at h
  rw [h, beq_iff_eq]
  omega
/-- wheels that mesh with v by one of the first m meshes of the class -/
def of_C (N : xa_M) (v m : Int) (w : Nat) : Prop := ∃ k, 0 ≤ k ∧ k < m ∧ lm_m1 N v (w : Int) k
theorem of_C0 {N : xa_M} {v : Int} : of_B (of_C N v 0) 0 := of_Bc of_B0 (fun w _ => ⟨fun h => by omega, fun ⟨k, h1, h2, _⟩ => by omega⟩)
theorem of_Cs {N : xa_M} {v m b x y : Int} {P Q : Nat → Prop} (m0 : 0 ≤ m) (hb : of_B (of_C N v m) b) (hx : of_B P x) (hy : of_B Q y) (e : ∀ w : Nat, (P w ∨ Q w) ↔ lm_m1 N v (w : Int) m) : of_B (of_C N v (m + 1)) (xa_ib 4 (xa_ib 4 b x) y) := by
  refine of_Bc (of_Bor (of_Bor hb hx) hy) (fun w hw => ?_)
  have e1 : of_C N v (m + 1) w ↔ of_C N v m w ∨ lm_m1 N v (w : Int) m := by
    unfold of_C
    exact lm_ex m0
  rw [e1, ← e w, or_assoc]
/-- there is such a number -/
def of_P (M : xa_M) (w x : Int) : Prop := (0 ≤ w ∧ w < M 60 0) ∧ 0 ≤ x ∧ x ≤ 5
def of_V (M : xa_M) (w x v : Int) : Prop := (x = 0 ∧ v = M 61 w) ∨ (x = 1 ∧ v = M 62 w) ∨ (x = 2 ∧ v = M 63 w) ∨ (x = 3 ∧ v = M 64 w) ∨ (x = 4 ∧ v = M 65 w) ∨ (x = 5 ∧ of_B (fun u => xm_meshed M w (u : Int)) v)
theorem of_Vu {M : xa_M} {w x u v : Int} (h : of_V M w x u) (h2 : of_V M w x v) : u = v := by
  rcases h with ⟨e, h⟩ | ⟨e, h⟩ | ⟨e, h⟩ | ⟨e, h⟩ | ⟨e, h⟩ | ⟨e, h⟩ <;> rcases h2 with ⟨e2, h2⟩ | ⟨e2, h2⟩ | ⟨e2, h2⟩ | ⟨e2, h2⟩ | ⟨e2, h2⟩ | ⟨e2, h2⟩ <;> first | (exfalso; omega) | exact h.trans h2.symm | exact of_Bu h h2
theorem of_Du {M : xa_M} {a b : Int} : xm_meshed (xa_up M 60 21 0) a b ↔ xm_meshed M a b := Iff.rfl
/-- what both have, whichever -/
def of_R (M : xa_M) (a b : Int) (o : Option xa_V) (M1 : xa_M) : Prop := (of_P M a b ∧ (∃ lo hi v, o = some (0, 0, lo, hi, v) ∧ of_V M a b v) ∧ M1 = xa_up M 60 21 0) ∨ (¬ of_P M a b ∧ (∃ lo hi v, o = some (0, 0, lo, hi, v)) ∧ M1 = xa_up (xa_up M 60 21 0) 60 21 1)
theorem ms_ofF {A : Nat → Nat} {h0 : g_H} {d : Nat} {M : xa_M} {post : Option xa_V → xa_M → Prop} {l1 u1 l2 u2 : Int} {a b : Int} (hI : xm_Inv M) (k : ∀ (o : Option xa_V) (M1 : xa_M), of_R M a b o M1 → post o M1) : xa_C xm_I A h0 (d + 3) 223 [(2, 60, 0, 0, 0), (0, 0, l1, u1, a), (0, 0, l2, u2, b)] M post := by
  refine xa_C_arg [(2, 60, 0, 0, 0), (0, 0, (-2147483648), 2147483647, a), (0, 0, (-2147483648), 2147483647, b)] (xa_svR (xa_svI (fun _ _ _ _ => by omega) (xa_svI (fun _ _ _ _ => by omega) xa_sv0))) ?_
  refine xa_meth (Q0 := (5, 1, false, 0, 0, 12)) (by decide +kernel) ⟨rfl, rfl⟩ (full := s_c_223) rfl rfl ?_
  intro hM hv Q hgo
  have b0 := xm_f0 hM
  have b6 := xm_f6 hM
  have loop : ∀ (n : Nat) (o c : Int), 0 ≤ o → o ≤ 14 → of_B (fun u => (u : Int) < o ∧ xm_meshed M a (u : Int)) c → (0 ≤ a ∧ a < M 60 0) → b = 5 → 14 - o < (n : Int) → Q 99 [(4, (0, 0, 0, 14, o)), (3, (0, 0, (-2147483648), 2147483647, c)), (1, (0, 0, (-2147483648), 2147483647, a)), (0, (2, 60, 0, 0, 0))] [] (xa_up M 60 21 0) := by
    intro n
    induction n with
    | zero => intro o c h1 h2 hc ha hb5 hms; omega
    | succ n ih =>
      intro o c h1 h2 hc ha hb5 hms
      refine hgo.1 22 [99] 99 _ _ _ ?_
      refine And.intro ?_ ?_
      · intro (c1 : (M 60 0) ≤ o)
        show post (some (0, 0, (-2147483648), 2147483647, c)) (xa_up M 60 21 0)
        refine k _ _ (Or.inl ⟨⟨ha, by omega, by omega⟩, ⟨_, _, _, rfl, ?_⟩, rfl⟩)
        refine Or.inr (Or.inr (Or.inr (Or.inr (Or.inr ⟨hb5, of_Bc hc (fun u hu => ⟨fun h => h.2, fun h => ⟨?_, h⟩⟩)⟩))))
        obtain ⟨m, m0, m1, h⟩ := h
        have g := hI.2.1 m m0 m1
        omega
      · intro (c1 : o < (M 60 0))
        show xa_C xm_I A h0 _ 221 [(2, 60, 0, 0, 0), (0, 0, (-2147483648), 2147483647, a), (0, 0, 0, 14, o)] (xa_up M 60 21 0) _
        refine ct_areMeshed (fun r2 zr2 er2 => ?_)
        refine And.intro ?_ ?_
        · intro (c3 : r2 = 0)
          show Q 99 [(4, (0, 0, 1, 15, o + 1)), (3, (0, 0, (-2147483648), 2147483647, c)), (1, (0, 0, (-2147483648), 2147483647, a)), (0, (2, 60, 0, 0, 0))] [] (xa_up M 60 21 0)
          refine hgo.2.1 99 _ [(4, (0, 0, 0, 14, o + 1)), (3, (0, 0, (-2147483648), 2147483647, c)), (1, (0, 0, (-2147483648), 2147483647, a)), (0, (2, 60, 0, 0, 0))] _ _ (xa_subI rfl rfl (fun _ _ _ _ => by omega) (xa_subI rfl rfl (fun _ _ _ _ => by omega) (xa_subI rfl rfl (fun _ _ _ _ => by omega) (xa_subR rfl xa_sub0)))) ?_
          exact ih (o + 1) c (by omega) (by omega) (of_Bc hc (fun u hu => ⟨fun h => ⟨by omega, h.2⟩, fun h => ⟨by
            by_cases e : (u : Int) = o
            · have h2 := h.2
              rw [e] at h2
              exact absurd (er2.mpr (of_Du.mpr h2)) (by omega)
            · omega, h.2⟩⟩)) ha hb5 (by omega)
        · intro (c3 : ¬ r2 = 0)
          show Q 99 [(4, (0, 0, 1, 15, o + 1)), (3, (0, 0, (-2147483648), 2147483647, xa_ib 4 c (xa_ib 6 1 o))), (1, (0, 0, (-2147483648), 2147483647, a)), (0, (2, 60, 0, 0, 0))] [] (xa_up M 60 21 0)
          refine hgo.2.1 99 _ [(4, (0, 0, 0, 14, o + 1)), (3, (0, 0, (-2147483648), 2147483647, xa_ib 4 c (xa_ib 6 1 o))), (1, (0, 0, (-2147483648), 2147483647, a)), (0, (2, 60, 0, 0, 0))] _ _ (xa_subI rfl rfl (fun _ _ _ _ => by omega) (xa_subI rfl rfl (fun _ _ _ _ => by omega) (xa_subI rfl rfl (fun _ _ _ _ => by omega) (xa_subR rfl xa_sub0)))) ?_
          exact ih (o + 1) (xa_ib 4 c (xa_ib 6 1 o)) (by omega) (by omega) (of_Bc (of_Bor hc (of_Bsh (by omega) (by omega))) (fun u hu => ⟨fun h => by
            rcases h with h | h
            · exact ⟨by omega, h.2⟩
            · refine ⟨by omega, ?_⟩
              rw [h]
              exact of_Du.mp (er2.mp (by omega)), fun h => by
            by_cases e : (u : Int) = o
            · exact Or.inr e
            · exact Or.inl ⟨by omega, h.2⟩⟩)) ha hb5 (by omega)
  refine hgo.1 36 [99] 0 _ _ _ ?_
  show xa_C xm_I A h0 _ 217 [(2, 60, 0, 0, 0), (0, 0, (-2147483648), 2147483647, a)] (xa_up M 60 21 0) _
  refine ct_isWheel ?_ ?_
  · intro (i1 : 0 ≤ a ∧ a < (M 60 0))
    show xa_C xm_I A h0 _ 214 [(0, 0, (-2147483648), 2147483647, b), (0, 0, 0, 0, 0), (0, 0, 5, 5, 5)] (xa_up M 60 21 0) _
    refine ct_in ?_ ?_
    · intro (i2 : 0 ≤ b ∧ b ≤ 5)
      refine And.intro ?_ ?_
      · intro (c3 : 5 ≤ b)
        show Q 99 [(4, (0, 0, 0, 0, 0)), (3, (0, 0, 0, 0, 0)), (0, (2, 60, 0, 0, 0)), (1, (0, 0, (-2147483648), 2147483647, a)), (2, (0, 0, (-2147483648), 2147483647, b))] [] (xa_up M 60 21 0)
        refine hgo.2.1 99 _ [(4, (0, 0, 0, 14, 0)), (3, (0, 0, (-2147483648), 2147483647, 0)), (1, (0, 0, (-2147483648), 2147483647, a)), (0, (2, 60, 0, 0, 0))] _ _ (xa_subI rfl rfl (fun _ _ _ _ => by omega) (xa_subI rfl rfl (fun _ _ _ _ => by omega) (xa_subI rfl rfl (fun _ _ _ _ => by omega) (xa_subR rfl xa_sub0)))) ?_
        exact loop 15 0 0 (by omega) (by omega) (of_Bc of_B0 (fun u hu => ⟨fun h => by omega, fun h => by omega⟩)) i1 (by omega) (by omega)
      · intro (c3 : b < 5)
        refine And.intro ?_ ?_
        · intro (c4 : ¬ b = 0)
          refine And.intro ?_ ?_
          · intro (c5 : ¬ b = 1)
            refine And.intro ?_ ?_
            · intro (c6 : ¬ b = 2)
              refine And.intro ?_ ?_
              · intro (c7 : ¬ b = 3)
                refine And.intro (show 0 ≤ a ∧ a < 14 by omega) ?_
                show post (some (0, 0, 0, 9, M 65 a)) (xa_up M 60 21 0)
                exact k _ _ (Or.inl ⟨⟨i1, by omega, by omega⟩, ⟨_, _, _, rfl, Or.inr (Or.inr (Or.inr (Or.inr (Or.inl ⟨by omega, rfl⟩))))⟩, rfl⟩)
              · intro (c7 : b = 3)
                refine And.intro (show 0 ≤ a ∧ a < 14 by omega) ?_
                show post (some (0, 0, 0, 9, M 64 a)) (xa_up M 60 21 0)
                exact k _ _ (Or.inl ⟨⟨i1, by omega, by omega⟩, ⟨_, _, _, rfl, Or.inr (Or.inr (Or.inr (Or.inl ⟨by omega, rfl⟩)))⟩, rfl⟩)
            · intro (c6 : b = 2)
              refine And.intro (show 0 ≤ a ∧ a < 14 by omega) ?_
              show post (some (0, 0, 0, 400, M 63 a)) (xa_up M 60 21 0)
              exact k _ _ (Or.inl ⟨⟨i1, by omega, by omega⟩, ⟨_, _, _, rfl, Or.inr (Or.inr (Or.inl ⟨by omega, rfl⟩))⟩, rfl⟩)
          · intro (c5 : b = 1)
            refine And.intro (show 0 ≤ a ∧ a < 14 by omega) ?_
            show post (some (0, 0, 0, 400, M 62 a)) (xa_up M 60 21 0)
            exact k _ _ (Or.inl ⟨⟨i1, by omega, by omega⟩, ⟨_, _, _, rfl, Or.inr (Or.inl ⟨by omega, rfl⟩)⟩, rfl⟩)
        · intro (c4 : b = 0)
          refine And.intro (show 0 ≤ a ∧ a < 14 by omega) ?_
          show post (some (0, 0, 0, 400, M 61 a)) (xa_up M 60 21 0)
          exact k _ _ (Or.inl ⟨⟨i1, by omega, by omega⟩, ⟨_, _, _, rfl, Or.inl ⟨by omega, rfl⟩⟩, rfl⟩)
    · intro (i2 : ¬ (0 ≤ b ∧ b ≤ 5))
      show xa_C xm_I A h0 _ 224 [(2, 60, 0, 0, 0)] (xa_up M 60 21 0) _
      refine ct_lost ?_
      show post (some (0, 0, 0, 0, 0)) (xa_up (xa_up M 60 21 0) 60 21 1)
      exact k _ _ (Or.inr ⟨fun h => i2 h.2, ⟨_, _, _, rfl⟩, rfl⟩)
  · intro (i1 : ¬ (0 ≤ a ∧ a < (M 60 0)))
    show xa_C xm_I A h0 _ 224 [(2, 60, 0, 0, 0)] (xa_up M 60 21 0) _
    refine ct_lost ?_
    show post (some (0, 0, 0, 0, 0)) (xa_up (xa_up M 60 21 0) 60 21 1)
    exact k _ _ (Or.inr ⟨fun h => i1 h.1, ⟨_, _, _, rfl⟩, rfl⟩)
/-- the reference's word of the throw -/
theorem ms_thrown {A : Nat → Nat} {h0 : g_H} {d : Nat} {M : xa_M} {post : Option xa_V → xa_M → Prop} (k : ∀ lo hi : Int, post (some (0, 0, lo, hi, M 60 21)) M) : xa_C xm_I A h0 (d + 1) 302 [(2, 60, 0, 0, 0)] M post := by
  refine xa_C_arg [(2, 60, 0, 0, 0)] (xa_svR xa_sv0) ?_
  refine xa_meth (Q0 := (1, 1, false, 0, 0, 12)) (by decide +kernel) ⟨rfl, rfl⟩ (full := s_c_302) rfl rfl ?_
  intro hM hv Q hgo
  refine hgo.1 5 [] 0 _ _ _ ?_
  exact k _ _
theorem cx_39_o {b : Bool} {A : Nat → Nat} {h0 : g_H} {d : Nat} {M : xa_M} {post : Option xa_V → xa_M → Prop} {l1 u1 v : Int} (hm : 0 ≤ M 1 10 ∧ M 1 10 ≤ 16) (hr : ∀ k, 0 ≤ k → k < M 1 10 → (0 ≤ M 7 k ∧ M 7 k < 14) ∧ (0 ≤ M 8 k ∧ M 8 k < 14)) (k1 : ∀ r, of_B (of_C M v (M 1 10)) r → post (some (0, 0, (-2147483648), 2147483647, r)) M) : xa_C (xl_I b) A h0 (d + 3) 39 [(2, 1, 0, 0, 0), (0, 0, l1, u1, v)] M post := by
  refine xa_C_arg [(2, 1, 0, 0, 0), (0, 0, (-2147483648), 2147483647, v)] (xa_svR (xa_svI (fun _ _ _ _ => by omega) xa_sv0)) ?_
  refine xa_meth (Q0 := (4, 1, false, 0, 0, 1)) (by decide +kernel) ⟨rfl, rfl⟩ (full := s_c_39) rfl rfl ?_
  intro hM hv Q hgo
  have loop : ∀ (n : Nat) (m bb : Int), 0 ≤ m → m ≤ M 1 10 → of_B (of_C M v m) bb → M 1 10 - m < (n : Int) → Q 4 [(3, (0, 0, 0, 16, m)), (2, (0, 0, (-2147483648), 2147483647, bb)), (0, (2, 1, 0, 0, 0)), (1, (0, 0, (-2147483648), 2147483647, v))] [] M := by
    intro n
    induction n with
    | zero => intro m bb h1 h2 hb hms; omega
    | succ n ih =>
      intro m bb h1 h2 hb hms
      refine hgo.1 39 [4] 4 _ _ _ ?_
      refine And.intro ?_ ?_
      · intro (c1 : (M 1 10) ≤ m)
        show post (some (0, 0, (-2147483648), 2147483647, bb)) M
        exact k1 _ (by rw [show M 1 10 = m by omega]; exact hb)
      · intro (c1 : m < (M 1 10))
        show xa_C (xl_I b) A h0 _ 40 [(2, 1, 0, 0, 0), (0, 0, 0, 16, m)] M _
        refine cx_40_1 (show 0 ≤ m ∧ m < 16 by omega) ?_
        refine And.intro ?_ ?_
        · intro (c2 : ¬ (M 7 m) = v)
          show xa_C (xl_I b) A h0 _ 41 [(2, 1, 0, 0, 0), (0, 0, 0, 16, m)] M _
          refine cx_41_1 (show 0 ≤ m ∧ m < 16 by omega) ?_
          refine And.intro ?_ ?_
          · intro (c3 : ¬ (M 8 m) = v)
            show Q 4 [(3, (0, 0, 1, 17, m + 1)), (2, (0, 0, (-2147483648), 2147483647, xa_ib 4 (xa_ib 4 bb 0) 0)), (0, (2, 1, 0, 0, 0)), (1, (0, 0, (-2147483648), 2147483647, v))] [] M
            refine hgo.2.1 4 _ [(3, (0, 0, 0, 16, m + 1)), (2, (0, 0, (-2147483648), 2147483647, xa_ib 4 (xa_ib 4 bb 0) 0)), (0, (2, 1, 0, 0, 0)), (1, (0, 0, (-2147483648), 2147483647, v))] _ _ (xa_subI rfl rfl (fun _ _ _ _ => by omega) (xa_subI rfl rfl (fun _ _ _ _ => by omega) (xa_subR rfl (xa_subI rfl rfl (fun _ _ _ _ => by omega) (xa_sub0))))) ?_
            have g := hr m (by omega) (by omega)
            exact ih (m + 1) _ (by omega) (by omega) (of_Cs h1 hb (of_B0) (of_B0) (fun w => by unfold lm_m1; omega)) (by omega)
          · intro (c3 : (M 8 m) = v)
            show xa_C (xl_I b) A h0 _ 40 [(2, 1, 0, 0, 0), (0, 0, 0, 16, m)] M _
            refine cx_40_1 (show 0 ≤ m ∧ m < 16 by omega) ?_
            show Q 4 [(3, (0, 0, 1, 17, m + 1)), (2, (0, 0, (-2147483648), 2147483647, xa_ib 4 (xa_ib 4 bb 0) (xa_ib 6 1 (M 7 m)))), (0, (2, 1, 0, 0, 0)), (1, (0, 0, (-2147483648), 2147483647, v))] [] M
            refine hgo.2.1 4 _ [(3, (0, 0, 0, 16, m + 1)), (2, (0, 0, (-2147483648), 2147483647, xa_ib 4 (xa_ib 4 bb 0) (xa_ib 6 1 (M 7 m)))), (0, (2, 1, 0, 0, 0)), (1, (0, 0, (-2147483648), 2147483647, v))] _ _ (xa_subI rfl rfl (fun _ _ _ _ => by omega) (xa_subI rfl rfl (fun _ _ _ _ => by omega) (xa_subR rfl (xa_subI rfl rfl (fun _ _ _ _ => by omega) (xa_sub0))))) ?_
            have g := hr m (by omega) (by omega)
            exact ih (m + 1) _ (by omega) (by omega) (of_Cs h1 hb (of_B0) (of_Bsh (by omega) (by omega)) (fun w => by unfold lm_m1; omega)) (by omega)
        · intro (c2 : (M 7 m) = v)
          show xa_C (xl_I b) A h0 _ 41 [(2, 1, 0, 0, 0), (0, 0, 0, 16, m)] M _
          refine cx_41_1 (show 0 ≤ m ∧ m < 16 by omega) ?_
          show xa_C (xl_I b) A h0 _ 41 [(2, 1, 0, 0, 0), (0, 0, 0, 16, m)] M _
          refine cx_41_1 (show 0 ≤ m ∧ m < 16 by omega) ?_
          refine And.intro ?_ ?_
          · intro (c4 : ¬ (M 8 m) = v)
            show Q 4 [(3, (0, 0, 1, 17, m + 1)), (2, (0, 0, (-2147483648), 2147483647, xa_ib 4 (xa_ib 4 bb (xa_ib 6 1 (M 8 m))) 0)), (0, (2, 1, 0, 0, 0)), (1, (0, 0, (-2147483648), 2147483647, v))] [] M
            refine hgo.2.1 4 _ [(3, (0, 0, 0, 16, m + 1)), (2, (0, 0, (-2147483648), 2147483647, xa_ib 4 (xa_ib 4 bb (xa_ib 6 1 (M 8 m))) 0)), (0, (2, 1, 0, 0, 0)), (1, (0, 0, (-2147483648), 2147483647, v))] _ _ (xa_subI rfl rfl (fun _ _ _ _ => by omega) (xa_subI rfl rfl (fun _ _ _ _ => by omega) (xa_subR rfl (xa_subI rfl rfl (fun _ _ _ _ => by omega) (xa_sub0))))) ?_
            have g := hr m (by omega) (by omega)
            exact ih (m + 1) _ (by omega) (by omega) (of_Cs h1 hb (of_Bsh (by omega) (by omega)) (of_B0) (fun w => by unfold lm_m1; omega)) (by omega)
          · intro (c4 : (M 8 m) = v)
            show xa_C (xl_I b) A h0 _ 40 [(2, 1, 0, 0, 0), (0, 0, 0, 16, m)] M _
            refine cx_40_1 (show 0 ≤ m ∧ m < 16 by omega) ?_
            show Q 4 [(3, (0, 0, 1, 17, m + 1)), (2, (0, 0, (-2147483648), 2147483647, xa_ib 4 (xa_ib 4 bb (xa_ib 6 1 (M 8 m))) (xa_ib 6 1 (M 7 m)))), (0, (2, 1, 0, 0, 0)), (1, (0, 0, (-2147483648), 2147483647, v))] [] M
            refine hgo.2.1 4 _ [(3, (0, 0, 0, 16, m + 1)), (2, (0, 0, (-2147483648), 2147483647, xa_ib 4 (xa_ib 4 bb (xa_ib 6 1 (M 8 m))) (xa_ib 6 1 (M 7 m)))), (0, (2, 1, 0, 0, 0)), (1, (0, 0, (-2147483648), 2147483647, v))] _ _ (xa_subI rfl rfl (fun _ _ _ _ => by omega) (xa_subI rfl rfl (fun _ _ _ _ => by omega) (xa_subR rfl (xa_subI rfl rfl (fun _ _ _ _ => by omega) (xa_sub0))))) ?_
            have g := hr m (by omega) (by omega)
            exact ih (m + 1) _ (by omega) (by omega) (of_Cs h1 hb (of_Bsh (by omega) (by omega)) (of_Bsh (by omega) (by omega)) (fun w => by unfold lm_m1; omega)) (by omega)
  refine hgo.1 9 [4] 0 _ _ _ ?_
  show Q 4 [(3, (0, 0, 0, 0, 0)), (2, (0, 0, 0, 0, 0)), (0, (2, 1, 0, 0, 0)), (1, (0, 0, (-2147483648), 2147483647, v))] [] M
  refine hgo.2.1 4 _ [(3, (0, 0, 0, 16, 0)), (2, (0, 0, (-2147483648), 2147483647, 0)), (0, (2, 1, 0, 0, 0)), (1, (0, 0, (-2147483648), 2147483647, v))] _ _ (xa_subI rfl rfl (fun _ _ _ _ => by omega) (xa_subI rfl rfl (fun _ _ _ _ => by omega) (xa_subR rfl (xa_subI rfl rfl (fun _ _ _ _ => by omega) (xa_sub0))))) ?_
  exact loop 17 0 0 (by omega) (by omega) of_C0 (by omega)
theorem cx_23_6 {b : Bool} {A : Nat → Nat} {h0 : g_H} {d : Nat} {M : xa_M} {post : Option xa_V → xa_M → Prop} {l1 u1 : Int} {i : Int} (h1 : 0 ≤ i ∧ i < 14) (k1 : post (some (0, 0, (-2147483648), 2147483647, M 6 i)) M) : xa_C (xl_I b) A h0 (d + 1) 23 [(2, 6, 0, 0, 0), (0, 0, l1, u1, i)] M post := by
  refine xa_C_arg [(2, 6, 0, 0, 0), (0, 0, (-2147483648), 2147483647, i)] (xa_svR (xa_svI (fun _ _ _ _ => by omega) xa_sv0)) ?_
  refine xa_meth (Q0 := (2, 1, false, 0, 0, 11)) (by decide +kernel) ⟨rfl, rfl⟩ (full := s_c_23) rfl rfl ?_
  intro hM hv Q hgo
  refine hgo.1 15 [] 0 _ _ _ ?_
  refine And.intro ?_ ?_
  · intro (c1 : i < 0)
    show post (some (0, 0, 0, 0, 0)) M
    exact absurd h1 (by omega)
  · intro (c1 : 0 ≤ i)
    refine And.intro ?_ ?_
    · intro (c2 : 14 ≤ i)
      show post (some (0, 0, 0, 0, 0)) M
      exact absurd h1 (by omega)
    · intro (c2 : i < 14)
      refine And.intro (show 0 ≤ i ∧ i < 14 by omega) ?_
      show post (some (0, 0, (-2147483648), 2147483647, M 6 i)) M
      exact k1
theorem cx_142_1 {b : Bool} {A : Nat → Nat} {h0 : g_H} {d : Nat} {M : xa_M} {post : Option xa_V → xa_M → Prop} {l1 u1 : Int} {x1 : Int} (h1 : 0 ≤ x1 ∧ x1 < 14) (k1 : post (some (0, 0, (-2147483648), 2147483647, M 6 x1)) M) : xa_C (xl_I b) A h0 (d + 2) 142 [(2, 1, 0, 0, 0), (0, 0, l1, u1, x1)] M post := by
  refine xa_C_arg [(2, 1, 0, 0, 0), (0, 0, (-2147483648), 2147483647, x1)] (xa_svR (xa_svI (fun _ _ _ _ => by omega) (xa_sv0))) ?_
  refine xa_meth (Q0 := (2, 1, false, 0, 0, 1)) (by decide +kernel) ⟨rfl, rfl⟩ (full := s_c_142) rfl rfl ?_
  intro hM hv Q hgo
  refine hgo.1 9 [] 0 _ _ _ ?_
  show xa_C (xl_I b) A h0 _ 23 [(2, 6, 0, 0, 0), (0, 0, (-2147483648), 2147483647, x1)] M _
  refine cx_23_6 (show 0 ≤ x1 ∧ x1 < 14 by omega) ?_
  show post (some (0, 0, (-2147483648), 2147483647, M 6 x1)) M
  exact k1
section OF1
variable {CALL : Nat → List Value → g_H → Nat → Nat → (Option Value → g_H → Prop) → Prop} {o nL : Nat} {ini : Bool} {bc bs : Nat} {cc : ByteArray} {P : g_S → Prop} {pc len : Nat} {Ls : g_L} {rest : List Value} {w : g_W}
theorem of_ts1 (hcl : ∀ S, g_pre CALL o nL ini bc bs cc P S → P S) {dflt lo hi : Int} {offs : Array Int} (hd : decode cc pc = .ok (.tableswitch dflt lo hi offs, len)) {x : Int32} {off : Int} (tgt : Nat) (ho : (pc : Int) + off = ((tgt : Nat) : Int)) (h1 : ¬ x.toInt < lo) (h2 : ¬ hi < x.toInt) (h3 : offs[(x.toInt - lo).toNat]? = some off) (k : P (tgt, Ls, rest, w)) : P (pc, Ls, .int x :: rest, w) := hcl _ ⟨_, len, hd, Or.inr (Or.inr (Or.inl (Or.inr (Or.inr (Or.inr (Or.inr (Or.inr ⟨dflt, lo, hi, offs, x, rest, off, tgt, rfl, rfl, ho, Or.inl ⟨h1, h2, h3⟩, k⟩)))))))⟩
theorem of_ts0 (hcl : ∀ S, g_pre CALL o nL ini bc bs cc P S → P S) {dflt lo hi : Int} {offs : Array Int} (hd : decode cc pc = .ok (.tableswitch dflt lo hi offs, len)) {x : Int32} (tgt : Nat) (ho : (pc : Int) + dflt = ((tgt : Nat) : Int)) (h1 : x.toInt < lo ∨ hi < x.toInt) (k : P (tgt, Ls, rest, w)) : P (pc, Ls, .int x :: rest, w) := hcl _ ⟨_, len, hd, Or.inr (Or.inr (Or.inl (Or.inr (Or.inr (Or.inr (Or.inr (Or.inr ⟨dflt, lo, hi, offs, x, rest, dflt, tgt, rfl, rfl, ho, Or.inr ⟨h1, rfl⟩, k⟩)))))))⟩
end OF1
/-- the two stand together, the reference's numbers are those of M -/
def of_T (A : Nat → Nat) (M : xa_M) (h : g_H) : Prop := (∃ W b, iv_JW A W b h) ∧ xa_H xm_I A M h h
theorem of_c0 {A : Nat → Nat} {W : y_W} {b : Bool} {h : g_H} (hJ : iv_JW A W b h) : ∃ f0, h[0]? = some (A 0, false, 11, 12, f0) ∧ f0 0 = .ref (A 1) ∧ ∃ f, h[1]? = some (A 1, false, 1, 11, f) := by
  obtain ⟨f0, g0⟩ := iv_cell hJ.1 (q := 0) rfl rfl
  have e0 := hJ.2.1 0 _ _ rfl 0 (show 0 < 12 by decide) rfl
  rw [iv_ctZ g0] at e0
  exact ⟨f0, g0, e0, iv_cell hJ.1 (q := 1) rfl rfl⟩
/-- a question to the lump -/
theorem of_q {A : Nat → Nat} {W : y_W} {b : Bool} {h : g_H} {M : xa_M} (hJ : iv_JW A W b h) (hM : xa_H xm_I A M h h) (hInv : xm_Inv M) {j : Nat} {m1 : Int32} {Z : Int → Prop} (hC : xa_C (xl_I b) A h 50 j [(2, 1, 0, 0, 0), (0, 0, (-2147483648), 2147483647, m1.toInt)] (iv_num h) (fun o M2 => (∃ lo hi v, o = some (0, 0, lo, hi, v) ∧ Z v) ∧ M2 = iv_num h)) : g_run 50 j [.ref (A 1), .int m1] h 0 0 (fun r h1 => iv_JW A W b h1 ∧ xa_H xm_I A M h1 h1 ∧ ∃ z : Int32, r = some (.int z) ∧ Z z.toInt) := by
  have hQ : iv_Q A W b h (iv_num h) := ⟨hJ.1, hJ.2.1, hJ.2.2.2, fun _ _ _ _ => rfl⟩
  refine g_run_mono (iv_Qc hQ hM (vs := [(2, 1, 0, 0, 0), (0, 0, (-2147483648), 2147483647, m1.toInt)]) (xs := [.ref (A 1), .int m1]) ⟨rfl, iv_i m1, trivial⟩ hC) (fun r h1 hp => ?_)
  obtain ⟨o9, M9, ⟨⟨lo, hi, v, rfl, hZ⟩, rfl⟩, hr9, hQ9, hM9, -⟩ := hp
  obtain ⟨z, rfl, hz⟩ := iv_gRi hr9
  exact ⟨iv_Qm hQ9 hM9 hM9 hInv (fun _ => rfl) (fun _ => rfl) (iv_xj hJ hM), hM9, z, rfl, by rw [hz]; exact hZ⟩
set_option maxRecDepth 100000 in
theorem of_d22 : decode (g_by 208) 22 = .ok (.tableswitch 92 0 5 #[38, 47, 56, 65, 74, 83], 38) := by decide +kernel
theorem of_mm {N M : xa_M} {v : Int} {u : Nat} (h1 : N 1 10 = M 60 6) (h2 : ∀ i, 0 ≤ i → i < M 60 6 → N 7 i = M 66 i ∧ N 8 i = M 67 i) : of_C N v (N 1 10) u ↔ xm_meshed M v (u : Int) := by
  unfold of_C xm_meshed lm_m1
  rw [h1]
  constructor
  · rintro ⟨k, k0, k1, h⟩
    obtain ⟨a, c⟩ := h2 k k0 k1
    rw [a, c] at h
    exact ⟨k, k0, k1, by omega⟩
  · rintro ⟨k, k0, k1, h⟩
    obtain ⟨a, c⟩ := h2 k k0 k1
    refine ⟨k, k0, k1, ?_⟩
    rw [a, c]
    omega
theorem iv_ofX {A : Nat → Nat} {W : y_W} {b : Bool} {h : g_H} {M : xa_M} (hJ : iv_JW A W b h) (hM : xa_H xm_I A M h h) (hInv : xm_Inv M) (m1 m2 : Int32) : ∀ P : g_S → Prop, (∀ S, g_end (g_by 208) (g_rt 208) 0 0 (fun r h' => (∃ v : Int32, r = some (.int v) ∧ of_V M m1.toInt m2.toInt v.toInt) ∧ of_P M m1.toInt m2.toInt ∧ of_T A M h') S → P S) → (∀ L h', (of_T A M h' ∧ ¬ of_P M m1.toInt m2.toInt) → P (11, L, [], 0, 0, h')) → (∀ L h', (of_T A M h' ∧ ¬ of_P M m1.toInt m2.toInt) → P (114, L, [], 0, 0, h')) → (∀ S, g_pre (g_run 50) 11 3 false 0 0 (g_by 208) P S → P S) → P (0, lv_args 0 [.ref (A 0), .int m1, .int m2], [], 0, 0, h) := by
  intro P hend h11 h114 hcl
  obtain ⟨q1, q2, q3, q4, q5⟩ := s_mi_ok 208 (3, 1, false, 0, 0, 11) (by decide +kernel)
  obtain ⟨c1, c2⟩ := s_codes_ok 208 (3, 1, false, 0, 0, 11) (by decide +kernel)
  rw [show s_codes.getD 208 [] = s_c_208 from rfl] at c1 c2
  have q3 : g_rt 208 = some .int := q3
  show P (0, [(0, .ref (A 0)), (1, .int m1), (2, .int m2)], [], 0, 0, h)
  have t20 : (g_me 20).2.1 = 1 := (s_mi_ok 20 _ (show s_mi[20]? = some (2, 2, false, 0, 0, 1) by decide +kernel)).2.2.2.2
  have t22 : (g_me 22).2.1 = 1 := (s_mi_ok 22 _ (show s_mi[22]? = some (2, 1, false, 0, 0, 1) by decide +kernel)).2.2.2.2
  have t25 : (g_me 25).2.1 = 1 := (s_mi_ok 25 _ (show s_mi[25]? = some (2, 1, false, 0, 0, 1) by decide +kernel)).2.2.2.2
  have t28 : (g_me 28).2.1 = 1 := (s_mi_ok 28 _ (show s_mi[28]? = some (2, 1, false, 0, 0, 1) by decide +kernel)).2.2.2.2
  have t37 : (g_me 37).2.1 = 1 := (s_mi_ok 37 _ (show s_mi[37]? = some (2, 1, false, 0, 0, 1) by decide +kernel)).2.2.2.2
  have t142 : (g_me 142).2.1 = 1 := (s_mi_ok 142 _ (show s_mi[142]? = some (2, 1, false, 0, 0, 1) by decide +kernel)).2.2.2.2
  have t39 : (g_me 39).2.1 = 1 := (s_mi_ok 39 _ (show s_mi[39]? = some (4, 1, false, 0, 0, 1) by decide +kernel)).2.2.2.2
  have m0 : ((0 : Nat), Value.ref (A 0)) ∈ ([(0, .ref (A 0)), (1, .int m1), (2, .int m2)] : g_L) := List.mem_cons_self
  have m1' : ((1 : Nat), Value.int m1) ∈ ([(0, .ref (A 0)), (1, .int m1), (2, .int m2)] : g_L) := List.mem_cons_of_mem _ List.mem_cons_self
  have m2' : ((2 : Nat), Value.int m2) ∈ ([(0, .ref (A 0)), (1, .int m1), (2, .int m2)] : g_L) := List.mem_cons_of_mem _ (List.mem_cons_of_mem _ List.mem_cons_self)
  have b0 := xm_f0 (xa_H_Mok hM)
  have b6 := xm_f6 (xa_H_Mok hM)
  obtain ⟨f0, g0, e0, y1, g1⟩ := of_c0 hJ
  have r1 : iv_num h 1 9 = M 60 0 := (iv_xj hJ hM).1.1
  refine ir_ld hcl (iv_dec (c2 _ (iv_in (c := []) (pc := 0) rfl)) (by decide) (by decide)) rfl m0 rfl ?_
  refine iv_getfield hcl (c2 _ (iv_in (c := []) (pc := 1) rfl)) (Or.inl rfl) (q := 0) (n := 12) (f := f0) g0 (by decide) ?_
  rw [e0]
  refine ir_ld hcl (iv_dec (c2 _ (iv_in (c := []) (pc := 4) rfl)) (by decide) (by decide)) rfl m1' rfl ?_
  refine iv_virt (as := [.int m1]) (rest := []) hcl (c2 _ (iv_in (c := []) (pc := 5) rfl)) (q := 1) (by rw [t20]; exact g1) rfl (show g_sum [] ≤ 8 by first | decide | exact (show (1 : Nat) ≤ 8 by decide)) (mc := 0) (ms := 0) (by decide) (by decide) (g_run_mono (of_q hJ hM hInv (Z := fun v => (v = 0 ∧ ¬ (0 ≤ m1.toInt ∧ m1.toInt < M 60 0)) ∨ (v = 1 ∧ 0 ≤ m1.toInt ∧ m1.toInt < M 60 0)) (cx_20_1 (d := 49) (fun c => ⟨⟨_, _, _, rfl, Or.inl ⟨rfl, by omega⟩⟩, rfl⟩) (fun c c2 => ⟨⟨_, _, _, rfl, Or.inl ⟨rfl, by omega⟩⟩, rfl⟩) (fun c c2 => ⟨⟨_, _, _, rfl, Or.inr ⟨rfl, by omega⟩⟩, rfl⟩))) (fun r h9 hp => ?_))
  obtain ⟨J9, M9, z, rfl, hz⟩ := hp
  show P (8, _, [.int z], 0, 0, h9)
  refine ir_if hcl (iv_dec (c2 _ (iv_in (c := []) (pc := 8) rfl)) (by decide) (by decide)) 21 rfl rfl ?_
  rcases hz with ⟨z0, hn⟩ | ⟨z1, w0, w1⟩
  · have ez : z = 0 := Int32.toInt_inj.mp z0
    rw [ez, if_neg (show ¬ g_c1 0 .ne = true by decide)]
    exact h11 _ _ ⟨⟨⟨W, b, J9⟩, M9⟩, fun hp => hn hp.1⟩
  have ez : z = 1 := Int32.toInt_inj.mp z1
  rw [ez, if_pos (show g_c1 1 .ne = true by decide)]
  obtain ⟨f9, k0, e9, y9, k1⟩ := of_c0 J9
  have R9 := iv_xj J9 M9
  have r2 : iv_num h9 1 10 = M 60 6 := R9.1.2.1
  have r3 : ∀ i, 0 ≤ i → i < 14 → iv_num h9 2 i = M 61 i ∧ iv_num h9 3 i = M 62 i ∧ iv_num h9 5 i = M 64 i ∧ iv_num h9 6 i = M 65 i ∧ iv_num h9 4 i = M 63 i := R9.1.2.2.1
  have r4 : ∀ i, 0 ≤ i → i < 16 → iv_num h9 7 i = M 66 i ∧ iv_num h9 8 i = M 67 i := R9.1.2.2.2
  obtain ⟨a2, a3, a5, a6, a4⟩ := r3 m1.toInt w0 (by omega)
  refine ir_ld hcl (iv_dec (c2 _ (iv_in (c := []) (pc := 21) rfl)) (by decide) (by decide)) rfl m2' rfl ?_
  by_cases hx : m2.toInt < 0 ∨ 5 < m2.toInt
  · refine of_ts0 hcl of_d22 114 rfl hx ?_
    exact h114 _ _ ⟨⟨⟨W, b, J9⟩, M9⟩, fun hp => by have := hp.2; omega⟩
  by_cases x0 : m2.toInt = 0
  · refine of_ts1 hcl of_d22 (off := 38) 60 rfl (by omega) (by omega) (by rw [show (m2.toInt - 0).toNat = 0 by omega]; rfl) ?_
    refine ir_ld hcl (iv_dec (c2 _ (iv_in (c := []) (pc := 60) rfl)) (by decide) (by decide)) rfl m0 rfl ?_
    refine iv_getfield hcl (c2 _ (iv_in (c := []) (pc := 61) rfl)) (Or.inl rfl) (q := 0) (n := 12) (f := f9) k0 (by decide) ?_
    rw [e9]
    refine ir_ld hcl (iv_dec (c2 _ (iv_in (c := []) (pc := 64) rfl)) (by decide) (by decide)) rfl m1' rfl ?_
    refine iv_virt (as := [.int m1]) (rest := []) hcl (c2 _ (iv_in (c := []) (pc := 65) rfl)) (q := 1) (by rw [t22]; exact k1) rfl (show g_sum [] ≤ 8 by first | decide | exact (show (1 : Nat) ≤ 8 by decide)) (mc := 0) (ms := 0) (by decide) (by decide) (g_run_mono (of_q J9 M9 hInv (Z := fun v => v = M 61 m1.toInt) (cx_22_1 (d := 48) (show 0 ≤ m1.toInt ∧ m1.toInt < 14 by omega) ⟨⟨_, _, _, rfl, a2⟩, rfl⟩)) (fun r h8 hp => ?_))
    obtain ⟨J8, M8, z, rfl, hz⟩ := hp
    show P (68, _, [.int z], 0, 0, h8)
    exact hend _ ⟨Nat.le_refl _, Nat.le_refl _, Or.inl ⟨z, .int, iv_ireturn (c2 _ (iv_in (c := []) (pc := 68) rfl)), q3, rfl, rfl, ⟨z, rfl, Or.inl ⟨by omega, hz⟩⟩, ⟨⟨w0, w1⟩, by omega, by omega⟩, ⟨W, b, J8⟩, M8⟩⟩
  by_cases x1 : m2.toInt = 1
  · refine of_ts1 hcl of_d22 (off := 47) 69 rfl (by omega) (by omega) (by rw [show (m2.toInt - 0).toNat = 1 by omega]; rfl) ?_
    refine ir_ld hcl (iv_dec (c2 _ (iv_in (c := []) (pc := 69) rfl)) (by decide) (by decide)) rfl m0 rfl ?_
    refine iv_getfield hcl (c2 _ (iv_in (c := []) (pc := 70) rfl)) (Or.inl rfl) (q := 0) (n := 12) (f := f9) k0 (by decide) ?_
    rw [e9]
    refine ir_ld hcl (iv_dec (c2 _ (iv_in (c := []) (pc := 73) rfl)) (by decide) (by decide)) rfl m1' rfl ?_
    refine iv_virt (as := [.int m1]) (rest := []) hcl (c2 _ (iv_in (c := []) (pc := 74) rfl)) (q := 1) (by rw [t25]; exact k1) rfl (show g_sum [] ≤ 8 by first | decide | exact (show (1 : Nat) ≤ 8 by decide)) (mc := 0) (ms := 0) (by decide) (by decide) (g_run_mono (of_q J9 M9 hInv (Z := fun v => v = M 62 m1.toInt) (cx_25_1 (d := 48) (show 0 ≤ m1.toInt ∧ m1.toInt < 14 by omega) ⟨⟨_, _, _, rfl, a3⟩, rfl⟩)) (fun r h8 hp => ?_))
    obtain ⟨J8, M8, z, rfl, hz⟩ := hp
    show P (77, _, [.int z], 0, 0, h8)
    exact hend _ ⟨Nat.le_refl _, Nat.le_refl _, Or.inl ⟨z, .int, iv_ireturn (c2 _ (iv_in (c := []) (pc := 77) rfl)), q3, rfl, rfl, ⟨z, rfl, Or.inr (Or.inl ⟨by omega, hz⟩)⟩, ⟨⟨w0, w1⟩, by omega, by omega⟩, ⟨W, b, J8⟩, M8⟩⟩
  by_cases x2 : m2.toInt = 2
  · refine of_ts1 hcl of_d22 (off := 56) 78 rfl (by omega) (by omega) (by rw [show (m2.toInt - 0).toNat = 2 by omega]; rfl) ?_
    refine ir_ld hcl (iv_dec (c2 _ (iv_in (c := []) (pc := 78) rfl)) (by decide) (by decide)) rfl m0 rfl ?_
    refine iv_getfield hcl (c2 _ (iv_in (c := []) (pc := 79) rfl)) (Or.inl rfl) (q := 0) (n := 12) (f := f9) k0 (by decide) ?_
    rw [e9]
    refine ir_ld hcl (iv_dec (c2 _ (iv_in (c := []) (pc := 82) rfl)) (by decide) (by decide)) rfl m1' rfl ?_
    refine iv_virt (as := [.int m1]) (rest := []) hcl (c2 _ (iv_in (c := []) (pc := 83) rfl)) (q := 1) (by rw [t28]; exact k1) rfl (show g_sum [] ≤ 8 by first | decide | exact (show (1 : Nat) ≤ 8 by decide)) (mc := 0) (ms := 0) (by decide) (by decide) (g_run_mono (of_q J9 M9 hInv (Z := fun v => v = M 63 m1.toInt) (cx_28_1 (d := 48) (show 0 ≤ m1.toInt ∧ m1.toInt < 14 by omega) ⟨⟨_, _, _, rfl, a4⟩, rfl⟩)) (fun r h8 hp => ?_))
    obtain ⟨J8, M8, z, rfl, hz⟩ := hp
    show P (86, _, [.int z], 0, 0, h8)
    exact hend _ ⟨Nat.le_refl _, Nat.le_refl _, Or.inl ⟨z, .int, iv_ireturn (c2 _ (iv_in (c := []) (pc := 86) rfl)), q3, rfl, rfl, ⟨z, rfl, Or.inr (Or.inr (Or.inl ⟨by omega, hz⟩))⟩, ⟨⟨w0, w1⟩, by omega, by omega⟩, ⟨W, b, J8⟩, M8⟩⟩
  by_cases x3 : m2.toInt = 3
  · refine of_ts1 hcl of_d22 (off := 65) 87 rfl (by omega) (by omega) (by rw [show (m2.toInt - 0).toNat = 3 by omega]; rfl) ?_
    refine ir_ld hcl (iv_dec (c2 _ (iv_in (c := []) (pc := 87) rfl)) (by decide) (by decide)) rfl m0 rfl ?_
    refine iv_getfield hcl (c2 _ (iv_in (c := []) (pc := 88) rfl)) (Or.inl rfl) (q := 0) (n := 12) (f := f9) k0 (by decide) ?_
    rw [e9]
    refine ir_ld hcl (iv_dec (c2 _ (iv_in (c := []) (pc := 91) rfl)) (by decide) (by decide)) rfl m1' rfl ?_
    refine iv_virt (as := [.int m1]) (rest := []) hcl (c2 _ (iv_in (c := []) (pc := 92) rfl)) (q := 1) (by rw [t37]; exact k1) rfl (show g_sum [] ≤ 8 by first | decide | exact (show (1 : Nat) ≤ 8 by decide)) (mc := 0) (ms := 0) (by decide) (by decide) (g_run_mono (of_q J9 M9 hInv (Z := fun v => v = M 64 m1.toInt) (cx_37_1 (d := 48) (show 0 ≤ m1.toInt ∧ m1.toInt < 14 by omega) ⟨⟨_, _, _, rfl, a5⟩, rfl⟩)) (fun r h8 hp => ?_))
    obtain ⟨J8, M8, z, rfl, hz⟩ := hp
    show P (95, _, [.int z], 0, 0, h8)
    exact hend _ ⟨Nat.le_refl _, Nat.le_refl _, Or.inl ⟨z, .int, iv_ireturn (c2 _ (iv_in (c := []) (pc := 95) rfl)), q3, rfl, rfl, ⟨z, rfl, Or.inr (Or.inr (Or.inr (Or.inl ⟨by omega, hz⟩)))⟩, ⟨⟨w0, w1⟩, by omega, by omega⟩, ⟨W, b, J8⟩, M8⟩⟩
  by_cases x4 : m2.toInt = 4
  · refine of_ts1 hcl of_d22 (off := 74) 96 rfl (by omega) (by omega) (by rw [show (m2.toInt - 0).toNat = 4 by omega]; rfl) ?_
    refine ir_ld hcl (iv_dec (c2 _ (iv_in (c := []) (pc := 96) rfl)) (by decide) (by decide)) rfl m0 rfl ?_
    refine iv_getfield hcl (c2 _ (iv_in (c := []) (pc := 97) rfl)) (Or.inl rfl) (q := 0) (n := 12) (f := f9) k0 (by decide) ?_
    rw [e9]
    refine ir_ld hcl (iv_dec (c2 _ (iv_in (c := []) (pc := 100) rfl)) (by decide) (by decide)) rfl m1' rfl ?_
    refine iv_virt (as := [.int m1]) (rest := []) hcl (c2 _ (iv_in (c := []) (pc := 101) rfl)) (q := 1) (by rw [t142]; exact k1) rfl (show g_sum [] ≤ 8 by first | decide | exact (show (1 : Nat) ≤ 8 by decide)) (mc := 0) (ms := 0) (by decide) (by decide) (g_run_mono (of_q J9 M9 hInv (Z := fun v => v = M 65 m1.toInt) (cx_142_1 (d := 48) (show 0 ≤ m1.toInt ∧ m1.toInt < 14 by omega) ⟨⟨_, _, _, rfl, a6⟩, rfl⟩)) (fun r h8 hp => ?_))
    obtain ⟨J8, M8, z, rfl, hz⟩ := hp
    show P (104, _, [.int z], 0, 0, h8)
    exact hend _ ⟨Nat.le_refl _, Nat.le_refl _, Or.inl ⟨z, .int, iv_ireturn (c2 _ (iv_in (c := []) (pc := 104) rfl)), q3, rfl, rfl, ⟨z, rfl, Or.inr (Or.inr (Or.inr (Or.inr (Or.inl ⟨by omega, hz⟩))))⟩, ⟨⟨w0, w1⟩, by omega, by omega⟩, ⟨W, b, J8⟩, M8⟩⟩
  refine of_ts1 hcl of_d22 (off := 83) 105 rfl (by omega) (by omega) (by rw [show (m2.toInt - 0).toNat = 5 by omega]; rfl) ?_
  refine ir_ld hcl (iv_dec (c2 _ (iv_in (c := []) (pc := 105) rfl)) (by decide) (by decide)) rfl m0 rfl ?_
  refine iv_getfield hcl (c2 _ (iv_in (c := []) (pc := 106) rfl)) (Or.inl rfl) (q := 0) (n := 12) (f := f9) k0 (by decide) ?_
  rw [e9]
  refine ir_ld hcl (iv_dec (c2 _ (iv_in (c := []) (pc := 109) rfl)) (by decide) (by decide)) rfl m1' rfl ?_
  refine iv_virt (as := [.int m1]) (rest := []) hcl (c2 _ (iv_in (c := []) (pc := 110) rfl)) (q := 1) (by rw [t39]; exact k1) rfl (show g_sum [] ≤ 8 by first | decide | exact (show (1 : Nat) ≤ 8 by decide)) (mc := 0) (ms := 0) (by decide) (by decide) (g_run_mono (of_q J9 M9 hInv (Z := fun v => of_B (fun u => xm_meshed M m1.toInt (u : Int)) v) (cx_39_o (d := 47) (by rw [r2]; exact b6) (fun k k0 k1 => by rw [r2] at k1; obtain ⟨x1, x2⟩ := r4 k k0 (by omega); rw [x1, x2]; have y1 := xm_t66 (xa_H_Mok hM) k k0 (by omega); have y2 := xm_t67 (xa_H_Mok hM) k k0 (by omega); omega) (fun r hr => ⟨⟨_, _, _, rfl, of_Bc hr (fun u _ => of_mm r2 (fun i i0 i1 => r4 i i0 (by omega)))⟩, rfl⟩))) (fun r h8 hp => ?_))
  obtain ⟨J8, M8, z, rfl, hz⟩ := hp
  show P (113, _, [.int z], 0, 0, h8)
  exact hend _ ⟨Nat.le_refl _, Nat.le_refl _, Or.inl ⟨z, .int, iv_ireturn (c2 _ (iv_in (c := []) (pc := 113) rfl)), q3, rfl, rfl, ⟨z, rfl, Or.inr (Or.inr (Or.inr (Or.inr (Or.inr (⟨by omega, hz⟩)))))⟩, ⟨⟨w0, w1⟩, by omega, by omega⟩, ⟨W, b, J8⟩, M8⟩⟩
