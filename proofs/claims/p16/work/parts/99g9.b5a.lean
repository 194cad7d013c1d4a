-- words
set_option maxRecDepth 20000
theorem le_cut {M M1 : xa_M} {n : Int} (h : 0 ≤ M 30 1) (hE : lt_E M 30 1 (M 30 1) 0 n M1) : M1 30 1 = 0 ∧ ∀ q j, ¬ (q = 30 ∧ j = 1) → ¬ (q = 60 ∧ j = 21) → M1 q j = M q j := by
  rcases hE with ⟨-, -, e3, e4⟩ | ⟨e1, -⟩
  · exact ⟨e3, e4⟩
  · exact absurd ⟨Int.le_refl 0, h⟩ e1
theorem cx_173f {b : Bool} {A : Nat → Nat} {h0 : g_H} {d : Nat} {M : xa_M} {post : Option xa_V → xa_M → Prop} {T : Int → Int} {l1 u1 n : Int} (hT : (∀ i, 0 ≤ i → i < 80 → M 31 i = T i)) (hB : ∀ i, 0 ≤ T i ∧ T i ≤ 255) (hz : 0 ≤ M 30 1 ∧ M 30 1 ≤ 80) (hn : 0 ≤ n ∧ n ≤ 2000) (k1 : wd_m T (M 30 1).toNat n → post (some (0, 0, 1, 1, 1)) M) (k2 : ¬ wd_m T (M 30 1).toNat n → post (some (0, 0, 0, 0, 0)) M) : xa_C (xl_I b) A h0 (d + 4) 173 [(2, 30, 0, 0, 0), (0, 0, l1, u1, n)] M post := by
  refine xa_C_arg [(2, 30, 0, 0, 0), (0, 0, 0, 2000, n)] (xa_svR (xa_svI (fun _ _ _ _ => by omega) xa_sv0)) ?_
  refine xa_meth (Q0 := (4, 2, false, 0, 0, 0)) (by decide +kernel) ⟨rfl, rfl⟩ (full := s_c_173) rfl rfl ?_
  intro hM hv Q hgo
  have loop : ∀ (f : Nat) (i r : Int), -1 ≤ i ∧ i < M 30 1 → 0 ≤ r ∧ r ≤ 2000 → (wd_m T (i + 1).toNat r ↔ wd_m T (M 30 1).toNat n) → i + 1 < (f : Int) → Q 9 [(3, (0, 0, (-1), 79, i)), (2, (0, 0, 0, 2000, r)), (1, (0, 0, 0, 2000, n)), (0, (2, 30, 0, 0, 0))] [] M := by
    intro f
    induction f with
    | zero => intro i r i1 r1 hb hms; omega
    | succ f ih =>
      intro i r i1 r1 hb hms
      have w9 : 0 ≤ i → xa_w32 ((M 31 i) - 48) = (M 31 i) - 48 := fun h => by
        have t9 := hT i h (by omega)
        have h9 := hB i
        exact xa_w32_id (by omega) (by omega)
      refine hgo.1 28 [9] 9 _ _ _ ?_
      refine And.intro ?_ ?_
      · intro (c1 : i < 0)
        refine And.intro ?_ ?_
        · intro (c2 : ¬ r = 0)
          show post (some (0, 0, 0, 0, 0)) M
          exact k2 (fun h => absurd ((wd_end (by omega) hb).mpr h) (by omega))
        · intro (c2 : r = 0)
          show post (some (0, 0, 1, 1, 1)) M
          exact k1 ((wd_end (by omega) hb).mp (by omega))
      · intro (c1 : 0 ≤ i)
        have i0 := c1
        have w8 := w9 i0
        refine And.intro ?_ ?_
        · intro (c3 : r = 0)
          show post (some (0, 0, 0, 0, 0)) M
          exact k2 (wd_no1 (by omega) (by omega) hb)
        · intro (c3 : ¬ r = 0)
          show xa_C (xl_I b) A h0 _ 172 [(2, 30, 0, 0, 0), (0, 0, (-1), 79, i)] M _
          refine cg_172 (show 0 ≤ (M 30 1) ∧ (M 30 1) ≤ 80 by omega) ?_ ?_
          · intro (i4 : (0 ≤ i ∧ i < (M 30 1)) ∧ M 31 i = 63)
            show Q 9 [(3, (0, 0, (-2), 78, i + (-1))), (2, (0, 0, 0, 2000, r / 10)), (1, (0, 0, 0, 2000, n)), (0, (2, 30, 0, 0, 0))] [] M
            have t9 := hT i i0 (by omega)
            have h9 := hB i
            have q9 : T i = 63 ∨ T i - 48 = r % 10 := by omega
            refine hgo.2.1 9 _ [(3, (0, 0, (-1), 79, i + (-1))), (2, (0, 0, 0, 2000, r / 10)), (1, (0, 0, 0, 2000, n)), (0, (2, 30, 0, 0, 0))] _ _ (xa_subI rfl rfl (fun _ _ _ _ => by omega) (xa_subI rfl rfl (fun _ _ _ _ => by omega) (xa_subI rfl rfl (fun _ _ _ _ => by omega) (xa_subR rfl (xa_sub0))))) ?_
            exact ih (i + (-1)) (r / 10) (by omega) (by omega) (wd_st i0 (by omega) q9 hb) (by omega)
          · intro (i5 : ¬ ((0 ≤ i ∧ i < (M 30 1)) ∧ M 31 i = 63))
            show xa_C (xl_I b) A h0 _ 119 [(2, 30, 0, 0, 0), (0, 0, (-1), 79, i)] M _
            refine cg_119 (show 0 ≤ (M 30 1) ∧ (M 30 1) ≤ 80 by omega) ?_ ?_
            · intro (i6 : 0 ≤ i ∧ i < (M 30 1))
              refine And.intro ?_ ?_
              · intro (c7 : (xa_w32 ((M 31 i) - 48)) = (r % 10))
                show Q 9 [(3, (0, 0, (-2), 78, i + (-1))), (2, (0, 0, 0, 2000, r / 10)), (1, (0, 0, 0, 2000, n)), (0, (2, 30, 0, 0, 0))] [] M
                have t9 := hT i i0 (by omega)
                have h9 := hB i
                have q9 : T i = 63 ∨ T i - 48 = r % 10 := by omega
                refine hgo.2.1 9 _ [(3, (0, 0, (-1), 79, i + (-1))), (2, (0, 0, 0, 2000, r / 10)), (1, (0, 0, 0, 2000, n)), (0, (2, 30, 0, 0, 0))] _ _ (xa_subI rfl rfl (fun _ _ _ _ => by omega) (xa_subI rfl rfl (fun _ _ _ _ => by omega) (xa_subI rfl rfl (fun _ _ _ _ => by omega) (xa_subR rfl (xa_sub0))))) ?_
                exact ih (i + (-1)) (r / 10) (by omega) (by omega) (wd_st i0 (by omega) q9 hb) (by omega)
              · intro (c7 : ¬ (xa_w32 ((M 31 i) - 48)) = (r % 10))
                show post (some (0, 0, 0, 0, 0)) M
                have t9 := hT i (by omega) (by omega)
                have h9 := hB i
                exact k2 (wd_no2 (by omega) (by omega) hb)
            · intro (i8 : ¬ (0 ≤ i ∧ i < (M 30 1)))
              show post (some (0, 0, 0, 0, 0)) M
              have t9 := hT i (by omega) (by omega)
              have h9 := hB i
              exact k2 (wd_no2 (by omega) (by omega) hb)
  refine hgo.1 12 [9] 0 _ _ _ ?_
  show Q 9 [(3, (0, 0, (-2147483648), 2147483647, xa_w32 ((M 30 1) - 1))), (2, (0, 0, 0, 2000, n)), (0, (2, 30, 0, 0, 0)), (1, (0, 0, 0, 2000, n))] [] M
  have w1 : xa_w32 ((M 30 1) - 1) = (M 30 1) - 1 := xa_w32_id (by omega) (by omega)
  rw [w1]
  refine hgo.2.1 9 _ [(3, (0, 0, (-1), 79, (M 30 1) - 1)), (2, (0, 0, 0, 2000, n)), (1, (0, 0, 0, 2000, n)), (0, (2, 30, 0, 0, 0))] _ _ (xa_subI rfl rfl (fun _ _ _ _ => by omega) (xa_subI rfl rfl (fun _ _ _ _ => by omega) (xa_subI rfl rfl (fun _ _ _ _ => by omega) (xa_subR rfl (xa_sub0))))) ?_
  exact loop 81 ((M 30 1) - 1) n (by omega) (by omega) (by rw [show (M 30 1) - 1 + 1 = M 30 1 by omega]) (by omega)
theorem cx_23_51 {b : Bool} {A : Nat → Nat} {h0 : g_H} {d : Nat} {M : xa_M} {post : Option xa_V → xa_M → Prop} {l1 u1 : Int} {i : Int} (h1 : 0 ≤ i ∧ i < 8) (k1 : post (some (0, 0, (-2147483648), 2147483647, M 51 i)) M) : xa_C (xl_I b) A h0 (d + 1) 23 [(2, 51, 0, 0, 0), (0, 0, l1, u1, i)] M post := by
  refine xa_C_arg [(2, 51, 0, 0, 0), (0, 0, (-2147483648), 2147483647, i)] (xa_svR (xa_svI (fun _ _ _ _ => by omega) xa_sv0)) ?_
  refine xa_meth (Q0 := (2, 1, false, 0, 0, 11)) (by decide +kernel) ⟨rfl, rfl⟩ (full := s_c_23) rfl rfl ?_
  intro hM hv Q hgo
  refine hgo.1 15 [] 0 _ _ _ ?_
  refine And.intro ?_ ?_
  · intro (c1 : i < 0)
    show post (some (0, 0, 0, 0, 0)) M
    exact absurd h1 (by omega)
  · intro (c1 : 0 ≤ i)
    refine And.intro ?_ ?_
    · intro (c2 : 8 ≤ i)
      show post (some (0, 0, 0, 0, 0)) M
      exact absurd h1 (by omega)
    · intro (c2 : i < 8)
      refine And.intro (show 0 ≤ i ∧ i < 8 by omega) ?_
      show post (some (0, 0, (-2147483648), 2147483647, M 51 i)) M
      exact k1
theorem cx_23_52 {b : Bool} {A : Nat → Nat} {h0 : g_H} {d : Nat} {M : xa_M} {post : Option xa_V → xa_M → Prop} {l1 u1 : Int} {i : Int} (h1 : 0 ≤ i ∧ i < 8) (k1 : post (some (0, 0, (-2147483648), 2147483647, M 52 i)) M) : xa_C (xl_I b) A h0 (d + 1) 23 [(2, 52, 0, 0, 0), (0, 0, l1, u1, i)] M post := by
  refine xa_C_arg [(2, 52, 0, 0, 0), (0, 0, (-2147483648), 2147483647, i)] (xa_svR (xa_svI (fun _ _ _ _ => by omega) xa_sv0)) ?_
  refine xa_meth (Q0 := (2, 1, false, 0, 0, 11)) (by decide +kernel) ⟨rfl, rfl⟩ (full := s_c_23) rfl rfl ?_
  intro hM hv Q hgo
  refine hgo.1 15 [] 0 _ _ _ ?_
  refine And.intro ?_ ?_
  · intro (c1 : i < 0)
    show post (some (0, 0, 0, 0, 0)) M
    exact absurd h1 (by omega)
  · intro (c1 : 0 ≤ i)
    refine And.intro ?_ ?_
    · intro (c2 : 8 ≤ i)
      show post (some (0, 0, 0, 0, 0)) M
      exact absurd h1 (by omega)
    · intro (c2 : i < 8)
      refine And.intro (show 0 ≤ i ∧ i < 8 by omega) ?_
      show post (some (0, 0, (-2147483648), 2147483647, M 52 i)) M
      exact k1
theorem cx_59_48 {b : Bool} {A : Nat → Nat} {h0 : g_H} {d : Nat} {M : xa_M} {post : Option xa_V → xa_M → Prop} (k1 : post none (xa_up M 48 1 0)) : xa_C (xl_I b) A h0 (d + 1) 59 [(2, 48, 0, 0, 0)] M post := by
  refine xa_C_arg [(2, 48, 0, 0, 0)] (xa_svR (xa_sv0)) ?_
  refine xa_meth (Q0 := (1, 0, false, 0, 0, 6)) (by decide +kernel) ⟨rfl, rfl⟩ (full := s_c_59) rfl rfl ?_
  intro hM hv Q hgo
  refine hgo.1 8 [] 0 _ _ _ ?_
  show post none (xa_up M 48 1 0)
  exact k1
theorem cx_48_49 {b : Bool} {A : Nat → Nat} {h0 : g_H} {d : Nat} {M : xa_M} {post : Option xa_V → xa_M → Prop} {l1 u1 l2 u2 : Int} {i v : Int} (h1 : 0 ≤ i ∧ i < 16) (k1 : post none (xa_up M 49 i v)) : xa_C (xl_I b) A h0 (d + 1) 48 [(2, 49, 0, 0, 0), (0, 0, l1, u1, i), (1, 0, l2, u2, v)] M post := by
  refine xa_C_arg [(2, 49, 0, 0, 0), (0, 0, (-2147483648), 2147483647, i), (1, 0, (-9223372036854775808), 9223372036854775807, v)] (xa_svR (xa_svI (fun _ _ _ _ => by omega) (xa_svL (fun _ _ _ _ => by omega) xa_sv0))) ?_
  refine xa_meth (Q0 := (4, 0, false, 0, 0, 11)) (by decide +kernel) ⟨rfl, rfl⟩ (full := s_c_48) rfl rfl ?_
  intro hM hv Q hgo
  refine hgo.1 15 [] 0 _ _ _ ?_
  refine And.intro ?_ ?_
  · intro (c1 : i < 0)
    show post none M
    exact absurd h1 (by omega)
  · intro (c1 : 0 ≤ i)
    refine And.intro ?_ ?_
    · intro (c2 : 16 ≤ i)
      show post none M
      exact absurd h1 (by omega)
    · intro (c2 : i < 16)
      refine And.intro (show 0 ≤ i ∧ i < 16 by omega) ?_
      show post none (xa_up M 49 i v)
      exact k1
theorem cx_60_48 {b : Bool} {A : Nat → Nat} {h0 : g_H} {d : Nat} {M : xa_M} {post : Option xa_V → xa_M → Prop} {l1 u1 : Int} {x1 : Int} (h1 : (0 : Int) ≤ (M 48 1)) (k1 : (16 ≤ (M 48 1)) → post none M) (k2 : ((M 48 1) < 16) → post none (xa_up (xa_up M 49 (M 48 1) x1) 48 1 (xa_w32 ((M 48 1) + 1)))) : xa_C (xl_I b) A h0 (d + 2) 60 [(2, 48, 0, 0, 0), (1, 0, l1, u1, x1)] M post := by
  refine xa_C_arg [(2, 48, 0, 0, 0), (1, 0, (-9223372036854775808), 9223372036854775807, x1)] (xa_svR (xa_svL (fun _ _ _ _ => by omega) (xa_sv0))) ?_
  refine xa_meth (Q0 := (3, 0, false, 0, 0, 6)) (by decide +kernel) ⟨rfl, rfl⟩ (full := s_c_60) rfl rfl ?_
  intro hM hv Q hgo
  refine hgo.1 21 [] 0 _ _ _ ?_
  refine And.intro ?_ ?_
  · intro (c1 : 16 ≤ (M 48 1))
    show post none M
    exact k1 c1
  · intro (c1 : (M 48 1) < 16)
    show xa_C (xl_I b) A h0 _ 48 [(2, 49, 0, 0, 0), (0, 0, (-2147483648), 2147483647, M 48 1), (1, 0, (-9223372036854775808), 9223372036854775807, x1)] M _
    refine cx_48_49 (show 0 ≤ (M 48 1) ∧ (M 48 1) < 16 by omega) ?_
    show post none (xa_up (xa_up M 49 (M 48 1) x1) 48 1 (xa_w32 ((M 48 1) + 1)))
    exact k2 c1
theorem cx_171_50 {b : Bool} {A : Nat → Nat} {h0 : g_H} {d : Nat} {M : xa_M} {post : Option xa_V → xa_M → Prop} {T : Int → Int} {l1 u1 x2 : Int} (hT : (∀ i, 0 ≤ i → i < 80 → M 31 i = T i)) (hB : ∀ i, 0 ≤ T i ∧ T i ≤ 255) (hz : 0 ≤ M 30 1 ∧ M 30 1 ≤ 80) (hp : 0 ≤ M 50 4 ∧ M 50 4 ≤ 8) (hU : ∀ i, 0 ≤ i → i < M 50 4 → (0 ≤ M 51 i ∧ M 51 i ≤ 2000) ∧ (0 ≤ M 52 i ∧ M 52 i ≤ 2000)) (hx : 0 ≤ x2 ∧ x2 ≤ 1) (k : ∀ (r : Int) (M1 : xa_M), wd_A T (M 30 1) (wd_P T (M 30 1) x2 (M 52) (M 51)) (M 50 4).toNat r → (∀ q j, ¬ q = 48 → ¬ q = 49 → M1 q j = M q j) → post (some (0, 0, (-2147483648), 2147483647, r)) M1) : xa_C (xl_I b) A h0 (d + 5) 171 [(2, 50, 0, 0, 0), (2, 30, 0, 0, 0), (0, 0, l1, u1, x2), (2, 48, 0, 0, 0)] M post := by
  refine xa_C_wk ?_
  refine xa_C_arg [(2, 50, 0, 0, 0), (2, 30, 0, 0, 0), (0, 0, 0, 1, x2), (2, 48, 0, 0, 0)] (xa_svR (xa_svR (xa_svI (fun _ _ _ _ => by omega) (xa_svR xa_sv0)))) ?_
  refine xa_meth (Q0 := (7, 1, false, 0, 0, 0)) (by decide +kernel) ⟨rfl, rfl⟩ (full := s_c_171) rfl rfl ?_
  intro hM hv Q hgo
  have loop3 : (∀ i, 0 ≤ i → i < M 30 1 → i < 4 → wd_s (T i)) → (1 ≤ M 30 1 ∧ M 30 1 ≤ 4) → ∀ (f : Nat) (bb al n : Int), 1 ≤ n ∧ n ≤ 2001 → 0 ≤ al ∧ al < n → bb = wd_b (wd_P T (M 30 1) x2 (M 52) (M 51)) (M 50 4).toNat → 2001 - n < (f : Int) → Q 142 [(4, (0, 0, (-2147483648), 2147483647, bb)), (5, (0, 0, 0, 2000, al)), (6, (0, 0, 1, 2001, n)), (2, (0, 0, 0, 1, x2)), (0, (2, 50, 0, 0, 0)), (1, (2, 30, 0, 0, 0)), (3, (2, 48, 0, 0, 0))] [] M := by
    intro hg hs f
    induction f with
    | zero => intro bb al n n1 a1 hb hms; omega
    | succ f ih =>
      intro bb al n n1 a1 hb hms
      refine hgo.1 19 [3, 76, 142] 142 _ _ _ ?_
      refine And.intro ?_ ?_
      · intro (c1 : 2000 < n)
        show xa_C (xl_I b) A h0 _ 59 [(2, 48, 0, 0, 0)] M _
        refine cx_59_48 ?_
        show xa_C (xl_I b) A h0 _ 60 [(2, 48, 0, 0, 0), (1, 0, 0, 2000, al)] (xa_up M 48 1 0) _
        refine cx_60_48 (by show (0 : Int) ≤ 0; omega) ?_ ?_
        · intro (i2 : 16 ≤ 0)
          exfalso
          omega
        · intro (i3 : 0 < 16)
          show xa_wk post (some (0, 0, (-2147483648), 2147483647, bb)) (xa_up (xa_up (xa_up M 48 1 0) 49 0 al) 48 1 (xa_w32 (0 + 1)))
          exact xa_wkI bb rfl (fun _ _ => by omega) (k _ _ (Or.inr ⟨hg, Or.inr (Or.inr ⟨hs.1, hs.2, hb⟩)⟩) (fun q j h1 h2 => by
            first
              | exact (xa_up_ne (by omega)).trans ((xa_up_ne (by omega)).trans (xa_up_ne (by omega)))
              | simp [xa_up, h1, h2]))
      · intro (c1 : n ≤ 2000)
        show xa_C (xl_I b) A h0 _ 173 [(2, 30, 0, 0, 0), (0, 0, 1, 2001, n)] M _
        refine cx_173f (by first | exact hT | exact hT1) hB (by omega) (by first | omega | exact hn8 _ (by omega) (by omega)) ?_ ?_
        · intro (i4 : wd_m T (M 30 1).toNat n)
          show Q 142 [(6, (0, 0, 2, 2002, n + 1)), (5, (0, 0, 1, 2001, al + 1)), (4, (0, 0, (-2147483648), 2147483647, bb)), (2, (0, 0, 0, 1, x2)), (0, (2, 50, 0, 0, 0)), (1, (2, 30, 0, 0, 0)), (3, (2, 48, 0, 0, 0))] [] M
          refine hgo.2.1 142 _ [(4, (0, 0, (-2147483648), 2147483647, bb)), (5, (0, 0, 0, 2000, al + 1)), (6, (0, 0, 1, 2001, n + 1)), (2, (0, 0, 0, 1, x2)), (0, (2, 50, 0, 0, 0)), (1, (2, 30, 0, 0, 0)), (3, (2, 48, 0, 0, 0))] _ _ (xa_subI rfl rfl (fun _ _ _ _ => by omega) (xa_subI rfl rfl (fun _ _ _ _ => by omega) (xa_subI rfl rfl (fun _ _ _ _ => by omega) (xa_subI rfl rfl (fun _ _ _ _ => by omega) (xa_subR rfl (xa_subR rfl (xa_subR rfl (xa_sub0)))))))) ?_
          exact ih bb (al + 1) (n + 1) (by omega) (by omega) hb (by omega)
        · intro (i5 : ¬ wd_m T (M 30 1).toNat n)
          show Q 142 [(6, (0, 0, 2, 2002, n + 1)), (5, (0, 0, 0, 2000, al + 0)), (4, (0, 0, (-2147483648), 2147483647, bb)), (2, (0, 0, 0, 1, x2)), (0, (2, 50, 0, 0, 0)), (1, (2, 30, 0, 0, 0)), (3, (2, 48, 0, 0, 0))] [] M
          refine hgo.2.1 142 _ [(4, (0, 0, (-2147483648), 2147483647, bb)), (5, (0, 0, 0, 2000, al + 0)), (6, (0, 0, 1, 2001, n + 1)), (2, (0, 0, 0, 1, x2)), (0, (2, 50, 0, 0, 0)), (1, (2, 30, 0, 0, 0)), (3, (2, 48, 0, 0, 0))] _ _ (xa_subI rfl rfl (fun _ _ _ _ => by omega) (xa_subI rfl rfl (fun _ _ _ _ => by omega) (xa_subI rfl rfl (fun _ _ _ _ => by omega) (xa_subI rfl rfl (fun _ _ _ _ => by omega) (xa_subR rfl (xa_subR rfl (xa_subR rfl (xa_sub0)))))))) ?_
          exact ih bb (al + 0) (n + 1) (by omega) (by omega) hb (by omega)
  have loop2 : (∀ i, 0 ≤ i → i < M 30 1 → i < 4 → wd_s (T i)) → (1 ≤ M 30 1 ∧ M 30 1 ≤ 4) → ∀ (f : Nat) (bb p : Int), 0 ≤ p ∧ p ≤ M 50 4 → p ≤ 8 → bb = wd_b (wd_P T (M 30 1) x2 (M 52) (M 51)) p.toNat → 8 - p < (f : Int) → Q 76 [(4, (0, 0, (-2147483648), 2147483647, bb)), (5, (0, 0, 0, 8, p)), (2, (0, 0, 0, 1, x2)), (0, (2, 50, 0, 0, 0)), (1, (2, 30, 0, 0, 0)), (3, (2, 48, 0, 0, 0))] [] M := by
    intro hg hs f
    induction f with
    | zero => intro bb p p1 p2 hb hms; omega
    | succ f ih =>
      intro bb p p1 p2 hb hms
      have hn8 := hU p
      have hr := wd_b_r (P := (wd_P T (M 30 1) x2 (M 52) (M 51))) p.toNat
      rw [← hb] at hr
      refine hgo.1 28 [3, 76, 142] 76 _ _ _ ?_
      refine And.intro ?_ ?_
      · intro (c1 : (M 50 4) ≤ p)
        show Q 142 [(6, (0, 0, 1, 1, 1)), (5, (0, 0, 0, 0, 0)), (4, (0, 0, (-2147483648), 2147483647, bb)), (2, (0, 0, 0, 1, x2)), (0, (2, 50, 0, 0, 0)), (1, (2, 30, 0, 0, 0)), (3, (2, 48, 0, 0, 0))] [] M
        refine hgo.2.1 142 _ [(4, (0, 0, (-2147483648), 2147483647, bb)), (5, (0, 0, 0, 2000, 0)), (6, (0, 0, 1, 2001, 1)), (2, (0, 0, 0, 1, x2)), (0, (2, 50, 0, 0, 0)), (1, (2, 30, 0, 0, 0)), (3, (2, 48, 0, 0, 0))] _ _ (xa_subI rfl rfl (fun _ _ _ _ => by omega) (xa_subI rfl rfl (fun _ _ _ _ => by omega) (xa_subI rfl rfl (fun _ _ _ _ => by omega) (xa_subI rfl rfl (fun _ _ _ _ => by omega) (xa_subR rfl (xa_subR rfl (xa_subR rfl (xa_sub0)))))))) ?_
        exact loop3 hg hs 2001 bb 0 1 (by omega) (by omega) (by rw [hb, show p = M 50 4 by omega]) (by omega)
      · intro (c1 : p < (M 50 4))
        refine And.intro ?_ ?_
        · intro (c2 : ¬ x2 = 0)
          show xa_C (xl_I b) A h0 _ 23 [(2, 51, 0, 0, 0), (0, 0, 0, 8, p)] M _
          refine cx_23_51 (show 0 ≤ p ∧ p < 8 by omega) ?_
          show xa_C (xl_I b) A h0 _ 173 [(2, 30, 0, 0, 0), (0, 0, (-2147483648), 2147483647, M 51 p)] M _
          refine cx_173f (by first | exact hT | exact hT1) hB (by omega) (by first | omega | exact hn8 _ (by omega) (by omega)) ?_ ?_
          · intro (i3 : wd_m T (M 30 1).toNat (M 51 p))
            show Q 76 [(5, (0, 0, 1, 9, p + 1)), (4, (0, 0, (-2147483648), 2147483647, xa_ib 4 bb (xa_ib 6 1 p))), (2, (0, 0, 0, 1, x2)), (0, (2, 50, 0, 0, 0)), (1, (2, 30, 0, 0, 0)), (3, (2, 48, 0, 0, 0))] [] M
            have ei : ((p.toNat : Nat) : Int) = p := Int.toNat_of_nonneg (by omega)
            have f9 : (wd_P T (M 30 1) x2 (M 52) (M 51)) ((p.toNat : Nat) : Int) := by
              rw [ei]
              exact (wd_P1 (by omega)).mpr i3
            have eb : xa_ib 4 bb (xa_ib 6 1 p) = wd_b (wd_P T (M 30 1) x2 (M 52) (M 51)) (p + 1).toNat := by
              rw [show (p + 1).toNat = p.toNat + 1 by omega, wd_b1 f9, ← hb, ei]
            refine hgo.2.1 76 _ [(4, (0, 0, (-2147483648), 2147483647, xa_ib 4 bb (xa_ib 6 1 p))), (5, (0, 0, 0, 8, p + 1)), (2, (0, 0, 0, 1, x2)), (0, (2, 50, 0, 0, 0)), (1, (2, 30, 0, 0, 0)), (3, (2, 48, 0, 0, 0))] _ _ (xa_subI rfl rfl (fun _ _ _ _ => by omega) (xa_subI rfl rfl (fun _ _ _ _ => by omega) (xa_subI rfl rfl (fun _ _ _ _ => by omega) (xa_subR rfl (xa_subR rfl (xa_subR rfl (xa_sub0))))))) ?_
            exact ih _ (p + 1) (by omega) (by omega) eb (by omega)
          · intro (i4 : ¬ wd_m T (M 30 1).toNat (M 51 p))
            show Q 76 [(5, (0, 0, 1, 9, p + 1)), (4, (0, 0, (-2147483648), 2147483647, xa_ib 4 bb 0)), (2, (0, 0, 0, 1, x2)), (0, (2, 50, 0, 0, 0)), (1, (2, 30, 0, 0, 0)), (3, (2, 48, 0, 0, 0))] [] M
            have ei : ((p.toNat : Nat) : Int) = p := Int.toNat_of_nonneg (by omega)
            have f9 : ¬ (wd_P T (M 30 1) x2 (M 52) (M 51)) ((p.toNat : Nat) : Int) := by
              rw [ei]
              exact fun h => i4 ((wd_P1 (by omega)).mp h)
            have eb : xa_ib 4 bb 0 = wd_b (wd_P T (M 30 1) x2 (M 52) (M 51)) (p + 1).toNat := by
              rw [show (p + 1).toNat = p.toNat + 1 by omega, wd_b0 f9, ← hb, bk_or0 hr.1 hr.2]
            refine hgo.2.1 76 _ [(4, (0, 0, (-2147483648), 2147483647, xa_ib 4 bb 0)), (5, (0, 0, 0, 8, p + 1)), (2, (0, 0, 0, 1, x2)), (0, (2, 50, 0, 0, 0)), (1, (2, 30, 0, 0, 0)), (3, (2, 48, 0, 0, 0))] _ _ (xa_subI rfl rfl (fun _ _ _ _ => by omega) (xa_subI rfl rfl (fun _ _ _ _ => by omega) (xa_subI rfl rfl (fun _ _ _ _ => by omega) (xa_subR rfl (xa_subR rfl (xa_subR rfl (xa_sub0))))))) ?_
            exact ih _ (p + 1) (by omega) (by omega) eb (by omega)
        · intro (c2 : x2 = 0)
          show xa_C (xl_I b) A h0 _ 23 [(2, 52, 0, 0, 0), (0, 0, 0, 8, p)] M _
          refine cx_23_52 (show 0 ≤ p ∧ p < 8 by omega) ?_
          show xa_C (xl_I b) A h0 _ 173 [(2, 30, 0, 0, 0), (0, 0, (-2147483648), 2147483647, M 52 p)] M _
          refine cx_173f (by first | exact hT | exact hT1) hB (by omega) (by first | omega | exact hn8 _ (by omega) (by omega)) ?_ ?_
          · intro (i5 : wd_m T (M 30 1).toNat (M 52 p))
            show Q 76 [(5, (0, 0, 1, 9, p + 1)), (4, (0, 0, (-2147483648), 2147483647, xa_ib 4 bb (xa_ib 6 1 p))), (2, (0, 0, 0, 1, x2)), (0, (2, 50, 0, 0, 0)), (1, (2, 30, 0, 0, 0)), (3, (2, 48, 0, 0, 0))] [] M
            have ei : ((p.toNat : Nat) : Int) = p := Int.toNat_of_nonneg (by omega)
            have f9 : (wd_P T (M 30 1) x2 (M 52) (M 51)) ((p.toNat : Nat) : Int) := by
              rw [ei]
              exact (wd_P0 (by omega)).mpr i5
            have eb : xa_ib 4 bb (xa_ib 6 1 p) = wd_b (wd_P T (M 30 1) x2 (M 52) (M 51)) (p + 1).toNat := by
              rw [show (p + 1).toNat = p.toNat + 1 by omega, wd_b1 f9, ← hb, ei]
            refine hgo.2.1 76 _ [(4, (0, 0, (-2147483648), 2147483647, xa_ib 4 bb (xa_ib 6 1 p))), (5, (0, 0, 0, 8, p + 1)), (2, (0, 0, 0, 1, x2)), (0, (2, 50, 0, 0, 0)), (1, (2, 30, 0, 0, 0)), (3, (2, 48, 0, 0, 0))] _ _ (xa_subI rfl rfl (fun _ _ _ _ => by omega) (xa_subI rfl rfl (fun _ _ _ _ => by omega) (xa_subI rfl rfl (fun _ _ _ _ => by omega) (xa_subR rfl (xa_subR rfl (xa_subR rfl (xa_sub0))))))) ?_
            exact ih _ (p + 1) (by omega) (by omega) eb (by omega)
          · intro (i6 : ¬ wd_m T (M 30 1).toNat (M 52 p))
            show Q 76 [(5, (0, 0, 1, 9, p + 1)), (4, (0, 0, (-2147483648), 2147483647, xa_ib 4 bb 0)), (2, (0, 0, 0, 1, x2)), (0, (2, 50, 0, 0, 0)), (1, (2, 30, 0, 0, 0)), (3, (2, 48, 0, 0, 0))] [] M
            have ei : ((p.toNat : Nat) : Int) = p := Int.toNat_of_nonneg (by omega)
            have f9 : ¬ (wd_P T (M 30 1) x2 (M 52) (M 51)) ((p.toNat : Nat) : Int) := by
              rw [ei]
              exact fun h => i6 ((wd_P0 (by omega)).mp h)
            have eb : xa_ib 4 bb 0 = wd_b (wd_P T (M 30 1) x2 (M 52) (M 51)) (p + 1).toNat := by
              rw [show (p + 1).toNat = p.toNat + 1 by omega, wd_b0 f9, ← hb, bk_or0 hr.1 hr.2]
            refine hgo.2.1 76 _ [(4, (0, 0, (-2147483648), 2147483647, xa_ib 4 bb 0)), (5, (0, 0, 0, 8, p + 1)), (2, (0, 0, 0, 1, x2)), (0, (2, 50, 0, 0, 0)), (1, (2, 30, 0, 0, 0)), (3, (2, 48, 0, 0, 0))] _ _ (xa_subI rfl rfl (fun _ _ _ _ => by omega) (xa_subI rfl rfl (fun _ _ _ _ => by omega) (xa_subI rfl rfl (fun _ _ _ _ => by omega) (xa_subR rfl (xa_subR rfl (xa_subR rfl (xa_sub0))))))) ?_
            exact ih _ (p + 1) (by omega) (by omega) eb (by omega)
  have loop1 : ∀ (f : Nat) (p : Int), 0 ≤ p ∧ p ≤ 4 → p ≤ M 30 1 → (∀ i, 0 ≤ i → i < p → wd_s (T i)) → 4 - p < (f : Int) → Q 3 [(4, (0, 0, 0, 4, p)), (2, (0, 0, 0, 1, x2)), (0, (2, 50, 0, 0, 0)), (1, (2, 30, 0, 0, 0)), (3, (2, 48, 0, 0, 0))] [] M := by
    intro f
    induction f with
    | zero => intro p p1 p2 hg hms; omega
    | succ f ih =>
      intro p p1 p2 hg hms
      refine hgo.1 27 [3, 76, 142] 3 _ _ _ ?_
      refine And.intro ?_ ?_
      · intro (c1 : (M 30 1) ≤ p)
        refine And.intro ?_ ?_
        · intro (c2 : ¬ (M 30 1) = 0)
          show Q 76 [(5, (0, 0, 0, 0, 0)), (4, (0, 0, 0, 0, 0)), (2, (0, 0, 0, 1, x2)), (0, (2, 50, 0, 0, 0)), (1, (2, 30, 0, 0, 0)), (3, (2, 48, 0, 0, 0))] [] M
          refine hgo.2.1 76 _ [(4, (0, 0, (-2147483648), 2147483647, 0)), (5, (0, 0, 0, 8, 0)), (2, (0, 0, 0, 1, x2)), (0, (2, 50, 0, 0, 0)), (1, (2, 30, 0, 0, 0)), (3, (2, 48, 0, 0, 0))] _ _ (xa_subI rfl rfl (fun _ _ _ _ => by omega) (xa_subI rfl rfl (fun _ _ _ _ => by omega) (xa_subI rfl rfl (fun _ _ _ _ => by omega) (xa_subR rfl (xa_subR rfl (xa_subR rfl (xa_sub0))))))) ?_
          exact loop2 (fun i g0 g1 g2 => hg i g0 (by omega)) (by omega) 9 0 0 (by omega) (by omega) rfl (by omega)
        · intro (c2 : (M 30 1) = 0)
          show xa_wk post (some (0, 0, (-100), (-100), (-100))) M
          exact xa_wkI (-100) rfl (fun _ _ => by omega) (k _ _ (Or.inr ⟨fun i g0 g1 g2 => hg i g0 (by omega), Or.inl ⟨by omega, rfl⟩⟩) (fun _ _ _ _ => rfl))
      · intro (c1 : p < (M 30 1))
        refine And.intro ?_ ?_
        · intro (c3 : 4 ≤ p)
          show xa_wk post (some (0, 0, (-104), (-100), (-100) - p)) M
          exact xa_wkI _ rfl (fun _ _ => by omega) (k _ _ (Or.inr ⟨fun i g0 g1 g2 => hg i g0 (by omega), Or.inr (Or.inl ⟨by omega, by omega⟩)⟩) (fun _ _ _ _ => rfl))
        · intro (c3 : p < 4)
          show xa_C (xl_I b) A h0 _ 118 [(2, 30, 0, 0, 0), (0, 0, 0, 4, p)] M _
          refine cg_118 (show 0 ≤ (M 30 1) ∧ (M 30 1) ≤ 80 by omega) ?_ ?_
          · intro (i4 : (0 ≤ p ∧ p < (M 30 1)) ∧ 48 ≤ M 31 p ∧ M 31 p ≤ 57)
            show Q 3 [(4, (0, 0, 1, 5, p + 1)), (5, (0, 0, 1, 1, 1)), (2, (0, 0, 0, 1, x2)), (0, (2, 50, 0, 0, 0)), (1, (2, 30, 0, 0, 0)), (3, (2, 48, 0, 0, 0))] [] M
            refine hgo.2.1 3 _ [(4, (0, 0, 0, 4, p + 1)), (2, (0, 0, 0, 1, x2)), (0, (2, 50, 0, 0, 0)), (1, (2, 30, 0, 0, 0)), (3, (2, 48, 0, 0, 0))] _ _ (xa_subI rfl rfl (fun _ _ _ _ => by omega) (xa_subI rfl rfl (fun _ _ _ _ => by omega) (xa_subR rfl (xa_subR rfl (xa_subR rfl (xa_sub0)))))) ?_
            exact ih (p + 1) (by omega) (by omega) (fun i g0 g1 => by
              by_cases e : i = p
              · rw [e]
                have t9 := hT p (by omega) (by omega)
                unfold wd_s
                omega
              · exact hg i g0 (by omega)) (by omega)
          · intro (i5 : ¬ ((0 ≤ p ∧ p < (M 30 1)) ∧ 48 ≤ M 31 p ∧ M 31 p ≤ 57))
            show xa_C (xl_I b) A h0 _ 172 [(2, 30, 0, 0, 0), (0, 0, 0, 4, p)] M _
            refine cg_172 (show 0 ≤ (M 30 1) ∧ (M 30 1) ≤ 80 by omega) ?_ ?_
            · intro (i6 : (0 ≤ p ∧ p < (M 30 1)) ∧ M 31 p = 63)
              show Q 3 [(4, (0, 0, 1, 5, p + 1)), (5, (0, 0, 1, 1, 1)), (2, (0, 0, 0, 1, x2)), (0, (2, 50, 0, 0, 0)), (1, (2, 30, 0, 0, 0)), (3, (2, 48, 0, 0, 0))] [] M
              refine hgo.2.1 3 _ [(4, (0, 0, 0, 4, p + 1)), (2, (0, 0, 0, 1, x2)), (0, (2, 50, 0, 0, 0)), (1, (2, 30, 0, 0, 0)), (3, (2, 48, 0, 0, 0))] _ _ (xa_subI rfl rfl (fun _ _ _ _ => by omega) (xa_subI rfl rfl (fun _ _ _ _ => by omega) (xa_subR rfl (xa_subR rfl (xa_subR rfl (xa_sub0)))))) ?_
              exact ih (p + 1) (by omega) (by omega) (fun i g0 g1 => by
                by_cases e : i = p
                · rw [e]
                  have t9 := hT p (by omega) (by omega)
                  unfold wd_s
                  omega
                · exact hg i g0 (by omega)) (by omega)
            · intro (i7 : ¬ ((0 ≤ p ∧ p < (M 30 1)) ∧ M 31 p = 63))
              show xa_wk post (some (0, 0, (-104), (-100), (-100) - p)) M
              have t9 := hT p (by omega) (by omega)
              exact xa_wkI _ rfl (fun _ _ => by omega) (k _ _ (Or.inl ⟨p, by omega, by omega, by omega, by unfold wd_s; omega, hg, by omega⟩) (fun _ _ _ _ => rfl))
  refine hgo.1 7 [3] 0 _ _ _ ?_
  show Q 3 [(4, (0, 0, 0, 0, 0)), (0, (2, 50, 0, 0, 0)), (1, (2, 30, 0, 0, 0)), (2, (0, 0, 0, 1, x2)), (3, (2, 48, 0, 0, 0))] [] M
  refine hgo.2.1 3 _ [(4, (0, 0, 0, 4, 0)), (2, (0, 0, 0, 1, x2)), (0, (2, 50, 0, 0, 0)), (1, (2, 30, 0, 0, 0)), (3, (2, 48, 0, 0, 0))] _ _ (xa_subI rfl rfl (fun _ _ _ _ => by omega) (xa_subI rfl rfl (fun _ _ _ _ => by omega) (xa_subR rfl (xa_subR rfl (xa_subR rfl (xa_sub0)))))) ?_
  exact loop1 5 0 (by omega) (by omega) (fun i g0 g1 => by omega) (by omega)
theorem cx_23_56 {b : Bool} {A : Nat → Nat} {h0 : g_H} {d : Nat} {M : xa_M} {post : Option xa_V → xa_M → Prop} {l1 u1 : Int} {i : Int} (h1 : 0 ≤ i ∧ i < 8) (k1 : post (some (0, 0, (-2147483648), 2147483647, M 56 i)) M) : xa_C (xl_I b) A h0 (d + 1) 23 [(2, 56, 0, 0, 0), (0, 0, l1, u1, i)] M post := by
  refine xa_C_arg [(2, 56, 0, 0, 0), (0, 0, (-2147483648), 2147483647, i)] (xa_svR (xa_svI (fun _ _ _ _ => by omega) xa_sv0)) ?_
  refine xa_meth (Q0 := (2, 1, false, 0, 0, 11)) (by decide +kernel) ⟨rfl, rfl⟩ (full := s_c_23) rfl rfl ?_
  intro hM hv Q hgo
  refine hgo.1 15 [] 0 _ _ _ ?_
  refine And.intro ?_ ?_
  · intro (c1 : i < 0)
    show post (some (0, 0, 0, 0, 0)) M
    exact absurd h1 (by omega)
  · intro (c1 : 0 ≤ i)
    refine And.intro ?_ ?_
    · intro (c2 : 8 ≤ i)
      show post (some (0, 0, 0, 0, 0)) M
      exact absurd h1 (by omega)
    · intro (c2 : i < 8)
      refine And.intro (show 0 ≤ i ∧ i < 8 by omega) ?_
      show post (some (0, 0, (-2147483648), 2147483647, M 56 i)) M
      exact k1
theorem cx_23_57 {b : Bool} {A : Nat → Nat} {h0 : g_H} {d : Nat} {M : xa_M} {post : Option xa_V → xa_M → Prop} {l1 u1 : Int} {i : Int} (h1 : 0 ≤ i ∧ i < 8) (k1 : post (some (0, 0, (-2147483648), 2147483647, M 57 i)) M) : xa_C (xl_I b) A h0 (d + 1) 23 [(2, 57, 0, 0, 0), (0, 0, l1, u1, i)] M post := by
  refine xa_C_arg [(2, 57, 0, 0, 0), (0, 0, (-2147483648), 2147483647, i)] (xa_svR (xa_svI (fun _ _ _ _ => by omega) xa_sv0)) ?_
  refine xa_meth (Q0 := (2, 1, false, 0, 0, 11)) (by decide +kernel) ⟨rfl, rfl⟩ (full := s_c_23) rfl rfl ?_
  intro hM hv Q hgo
  refine hgo.1 15 [] 0 _ _ _ ?_
  refine And.intro ?_ ?_
  · intro (c1 : i < 0)
    show post (some (0, 0, 0, 0, 0)) M
    exact absurd h1 (by omega)
  · intro (c1 : 0 ≤ i)
    refine And.intro ?_ ?_
    · intro (c2 : 8 ≤ i)
      show post (some (0, 0, 0, 0, 0)) M
      exact absurd h1 (by omega)
    · intro (c2 : i < 8)
      refine And.intro (show 0 ≤ i ∧ i < 8 by omega) ?_
      show post (some (0, 0, (-2147483648), 2147483647, M 57 i)) M
      exact k1
theorem cx_171_55 {b : Bool} {A : Nat → Nat} {h0 : g_H} {d : Nat} {M : xa_M} {post : Option xa_V → xa_M → Prop} {T : Int → Int} {l1 u1 x2 : Int} (hT : (∀ i, 0 ≤ i → i < 80 → M 31 i = T i)) (hB : ∀ i, 0 ≤ T i ∧ T i ≤ 255) (hz : 0 ≤ M 30 1 ∧ M 30 1 ≤ 80) (hp : 0 ≤ M 55 4 ∧ M 55 4 ≤ 8) (hU : ∀ i, 0 ≤ i → i < M 55 4 → (0 ≤ M 56 i ∧ M 56 i ≤ 2000) ∧ (0 ≤ M 57 i ∧ M 57 i ≤ 2000)) (hx : 0 ≤ x2 ∧ x2 ≤ 1) (k : ∀ (r : Int) (M1 : xa_M), wd_A T (M 30 1) (wd_P T (M 30 1) x2 (M 57) (M 56)) (M 55 4).toNat r → (∀ q j, ¬ q = 48 → ¬ q = 49 → M1 q j = M q j) → post (some (0, 0, (-2147483648), 2147483647, r)) M1) : xa_C (xl_I b) A h0 (d + 5) 171 [(2, 55, 0, 0, 0), (2, 30, 0, 0, 0), (0, 0, l1, u1, x2), (2, 48, 0, 0, 0)] M post := by
  refine xa_C_wk ?_
  refine xa_C_arg [(2, 55, 0, 0, 0), (2, 30, 0, 0, 0), (0, 0, 0, 1, x2), (2, 48, 0, 0, 0)] (xa_svR (xa_svR (xa_svI (fun _ _ _ _ => by omega) (xa_svR xa_sv0)))) ?_
  refine xa_meth (Q0 := (7, 1, false, 0, 0, 0)) (by decide +kernel) ⟨rfl, rfl⟩ (full := s_c_171) rfl rfl ?_
  intro hM hv Q hgo
  have loop3 : (∀ i, 0 ≤ i → i < M 30 1 → i < 4 → wd_s (T i)) → (1 ≤ M 30 1 ∧ M 30 1 ≤ 4) → ∀ (f : Nat) (bb al n : Int), 1 ≤ n ∧ n ≤ 2001 → 0 ≤ al ∧ al < n → bb = wd_b (wd_P T (M 30 1) x2 (M 57) (M 56)) (M 55 4).toNat → 2001 - n < (f : Int) → Q 142 [(4, (0, 0, (-2147483648), 2147483647, bb)), (5, (0, 0, 0, 2000, al)), (6, (0, 0, 1, 2001, n)), (2, (0, 0, 0, 1, x2)), (0, (2, 55, 0, 0, 0)), (1, (2, 30, 0, 0, 0)), (3, (2, 48, 0, 0, 0))] [] M := by
    intro hg hs f
    induction f with
    | zero => intro bb al n n1 a1 hb hms; omega
    | succ f ih =>
      intro bb al n n1 a1 hb hms
      refine hgo.1 19 [3, 76, 142] 142 _ _ _ ?_
      refine And.intro ?_ ?_
      · intro (c1 : 2000 < n)
        show xa_C (xl_I b) A h0 _ 59 [(2, 48, 0, 0, 0)] M _
        refine cx_59_48 ?_
        show xa_C (xl_I b) A h0 _ 60 [(2, 48, 0, 0, 0), (1, 0, 0, 2000, al)] (xa_up M 48 1 0) _
        refine cx_60_48 (by show (0 : Int) ≤ 0; omega) ?_ ?_
        · intro (i2 : 16 ≤ 0)
          exfalso
          omega
        · intro (i3 : 0 < 16)
          show xa_wk post (some (0, 0, (-2147483648), 2147483647, bb)) (xa_up (xa_up (xa_up M 48 1 0) 49 0 al) 48 1 (xa_w32 (0 + 1)))
          exact xa_wkI bb rfl (fun _ _ => by omega) (k _ _ (Or.inr ⟨hg, Or.inr (Or.inr ⟨hs.1, hs.2, hb⟩)⟩) (fun q j h1 h2 => by
            first
              | exact (xa_up_ne (by omega)).trans ((xa_up_ne (by omega)).trans (xa_up_ne (by omega)))
              | simp [xa_up, h1, h2]))
      · intro (c1 : n ≤ 2000)
        show xa_C (xl_I b) A h0 _ 173 [(2, 30, 0, 0, 0), (0, 0, 1, 2001, n)] M _
        refine cx_173f (by first | exact hT | exact hT1) hB (by omega) (by first | omega | exact hn8 _ (by omega) (by omega)) ?_ ?_
        · intro (i4 : wd_m T (M 30 1).toNat n)
          show Q 142 [(6, (0, 0, 2, 2002, n + 1)), (5, (0, 0, 1, 2001, al + 1)), (4, (0, 0, (-2147483648), 2147483647, bb)), (2, (0, 0, 0, 1, x2)), (0, (2, 55, 0, 0, 0)), (1, (2, 30, 0, 0, 0)), (3, (2, 48, 0, 0, 0))] [] M
          refine hgo.2.1 142 _ [(4, (0, 0, (-2147483648), 2147483647, bb)), (5, (0, 0, 0, 2000, al + 1)), (6, (0, 0, 1, 2001, n + 1)), (2, (0, 0, 0, 1, x2)), (0, (2, 55, 0, 0, 0)), (1, (2, 30, 0, 0, 0)), (3, (2, 48, 0, 0, 0))] _ _ (xa_subI rfl rfl (fun _ _ _ _ => by omega) (xa_subI rfl rfl (fun _ _ _ _ => by omega) (xa_subI rfl rfl (fun _ _ _ _ => by omega) (xa_subI rfl rfl (fun _ _ _ _ => by omega) (xa_subR rfl (xa_subR rfl (xa_subR rfl (xa_sub0)))))))) ?_
          exact ih bb (al + 1) (n + 1) (by omega) (by omega) hb (by omega)
        · intro (i5 : ¬ wd_m T (M 30 1).toNat n)
          show Q 142 [(6, (0, 0, 2, 2002, n + 1)), (5, (0, 0, 0, 2000, al + 0)), (4, (0, 0, (-2147483648), 2147483647, bb)), (2, (0, 0, 0, 1, x2)), (0, (2, 55, 0, 0, 0)), (1, (2, 30, 0, 0, 0)), (3, (2, 48, 0, 0, 0))] [] M
          refine hgo.2.1 142 _ [(4, (0, 0, (-2147483648), 2147483647, bb)), (5, (0, 0, 0, 2000, al + 0)), (6, (0, 0, 1, 2001, n + 1)), (2, (0, 0, 0, 1, x2)), (0, (2, 55, 0, 0, 0)), (1, (2, 30, 0, 0, 0)), (3, (2, 48, 0, 0, 0))] _ _ (xa_subI rfl rfl (fun _ _ _ _ => by omega) (xa_subI rfl rfl (fun _ _ _ _ => by omega) (xa_subI rfl rfl (fun _ _ _ _ => by omega) (xa_subI rfl rfl (fun _ _ _ _ => by omega) (xa_subR rfl (xa_subR rfl (xa_subR rfl (xa_sub0)))))))) ?_
          exact ih bb (al + 0) (n + 1) (by omega) (by omega) hb (by omega)
  have loop2 : (∀ i, 0 ≤ i → i < M 30 1 → i < 4 → wd_s (T i)) → (1 ≤ M 30 1 ∧ M 30 1 ≤ 4) → ∀ (f : Nat) (bb p : Int), 0 ≤ p ∧ p ≤ M 55 4 → p ≤ 8 → bb = wd_b (wd_P T (M 30 1) x2 (M 57) (M 56)) p.toNat → 8 - p < (f : Int) → Q 76 [(4, (0, 0, (-2147483648), 2147483647, bb)), (5, (0, 0, 0, 8, p)), (2, (0, 0, 0, 1, x2)), (0, (2, 55, 0, 0, 0)), (1, (2, 30, 0, 0, 0)), (3, (2, 48, 0, 0, 0))] [] M := by
    intro hg hs f
    induction f with
    | zero => intro bb p p1 p2 hb hms; omega
    | succ f ih =>
      intro bb p p1 p2 hb hms
      have hn8 := hU p
      have hr := wd_b_r (P := (wd_P T (M 30 1) x2 (M 57) (M 56))) p.toNat
      rw [← hb] at hr
      refine hgo.1 28 [3, 76, 142] 76 _ _ _ ?_
      refine And.intro ?_ ?_
      · intro (c1 : (M 55 4) ≤ p)
        show Q 142 [(6, (0, 0, 1, 1, 1)), (5, (0, 0, 0, 0, 0)), (4, (0, 0, (-2147483648), 2147483647, bb)), (2, (0, 0, 0, 1, x2)), (0, (2, 55, 0, 0, 0)), (1, (2, 30, 0, 0, 0)), (3, (2, 48, 0, 0, 0))] [] M
        refine hgo.2.1 142 _ [(4, (0, 0, (-2147483648), 2147483647, bb)), (5, (0, 0, 0, 2000, 0)), (6, (0, 0, 1, 2001, 1)), (2, (0, 0, 0, 1, x2)), (0, (2, 55, 0, 0, 0)), (1, (2, 30, 0, 0, 0)), (3, (2, 48, 0, 0, 0))] _ _ (xa_subI rfl rfl (fun _ _ _ _ => by omega) (xa_subI rfl rfl (fun _ _ _ _ => by omega) (xa_subI rfl rfl (fun _ _ _ _ => by omega) (xa_subI rfl rfl (fun _ _ _ _ => by omega) (xa_subR rfl (xa_subR rfl (xa_subR rfl (xa_sub0)))))))) ?_
        exact loop3 hg hs 2001 bb 0 1 (by omega) (by omega) (by rw [hb, show p = M 55 4 by omega]) (by omega)
      · intro (c1 : p < (M 55 4))
        refine And.intro ?_ ?_
        · intro (c2 : ¬ x2 = 0)
          show xa_C (xl_I b) A h0 _ 23 [(2, 56, 0, 0, 0), (0, 0, 0, 8, p)] M _
          refine cx_23_56 (show 0 ≤ p ∧ p < 8 by omega) ?_
          show xa_C (xl_I b) A h0 _ 173 [(2, 30, 0, 0, 0), (0, 0, (-2147483648), 2147483647, M 56 p)] M _
          refine cx_173f (by first | exact hT | exact hT1) hB (by omega) (by first | omega | exact hn8 _ (by omega) (by omega)) ?_ ?_
          · intro (i3 : wd_m T (M 30 1).toNat (M 56 p))
            show Q 76 [(5, (0, 0, 1, 9, p + 1)), (4, (0, 0, (-2147483648), 2147483647, xa_ib 4 bb (xa_ib 6 1 p))), (2, (0, 0, 0, 1, x2)), (0, (2, 55, 0, 0, 0)), (1, (2, 30, 0, 0, 0)), (3, (2, 48, 0, 0, 0))] [] M
            have ei : ((p.toNat : Nat) : Int) = p := Int.toNat_of_nonneg (by omega)
            have f9 : (wd_P T (M 30 1) x2 (M 57) (M 56)) ((p.toNat : Nat) : Int) := by
              rw [ei]
              exact (wd_P1 (by omega)).mpr i3
            have eb : xa_ib 4 bb (xa_ib 6 1 p) = wd_b (wd_P T (M 30 1) x2 (M 57) (M 56)) (p + 1).toNat := by
              rw [show (p + 1).toNat = p.toNat + 1 by omega, wd_b1 f9, ← hb, ei]
            refine hgo.2.1 76 _ [(4, (0, 0, (-2147483648), 2147483647, xa_ib 4 bb (xa_ib 6 1 p))), (5, (0, 0, 0, 8, p + 1)), (2, (0, 0, 0, 1, x2)), (0, (2, 55, 0, 0, 0)), (1, (2, 30, 0, 0, 0)), (3, (2, 48, 0, 0, 0))] _ _ (xa_subI rfl rfl (fun _ _ _ _ => by omega) (xa_subI rfl rfl (fun _ _ _ _ => by omega) (xa_subI rfl rfl (fun _ _ _ _ => by omega) (xa_subR rfl (xa_subR rfl (xa_subR rfl (xa_sub0))))))) ?_
            exact ih _ (p + 1) (by omega) (by omega) eb (by omega)
          · intro (i4 : ¬ wd_m T (M 30 1).toNat (M 56 p))
            show Q 76 [(5, (0, 0, 1, 9, p + 1)), (4, (0, 0, (-2147483648), 2147483647, xa_ib 4 bb 0)), (2, (0, 0, 0, 1, x2)), (0, (2, 55, 0, 0, 0)), (1, (2, 30, 0, 0, 0)), (3, (2, 48, 0, 0, 0))] [] M
            have ei : ((p.toNat : Nat) : Int) = p := Int.toNat_of_nonneg (by omega)
            have f9 : ¬ (wd_P T (M 30 1) x2 (M 57) (M 56)) ((p.toNat : Nat) : Int) := by
              rw [ei]
              exact fun h => i4 ((wd_P1 (by omega)).mp h)
            have eb : xa_ib 4 bb 0 = wd_b (wd_P T (M 30 1) x2 (M 57) (M 56)) (p + 1).toNat := by
              rw [show (p + 1).toNat = p.toNat + 1 by omega, wd_b0 f9, ← hb, bk_or0 hr.1 hr.2]
            refine hgo.2.1 76 _ [(4, (0, 0, (-2147483648), 2147483647, xa_ib 4 bb 0)), (5, (0, 0, 0, 8, p + 1)), (2, (0, 0, 0, 1, x2)), (0, (2, 55, 0, 0, 0)), (1, (2, 30, 0, 0, 0)), (3, (2, 48, 0, 0, 0))] _ _ (xa_subI rfl rfl (fun _ _ _ _ => by omega) (xa_subI rfl rfl (fun _ _ _ _ => by omega) (xa_subI rfl rfl (fun _ _ _ _ => by omega) (xa_subR rfl (xa_subR rfl (xa_subR rfl (xa_sub0))))))) ?_
            exact ih _ (p + 1) (by omega) (by omega) eb (by omega)
        · intro (c2 : x2 = 0)
          show xa_C (xl_I b) A h0 _ 23 [(2, 57, 0, 0, 0), (0, 0, 0, 8, p)] M _
          refine cx_23_57 (show 0 ≤ p ∧ p < 8 by omega) ?_
          show xa_C (xl_I b) A h0 _ 173 [(2, 30, 0, 0, 0), (0, 0, (-2147483648), 2147483647, M 57 p)] M _
          refine cx_173f (by first | exact hT | exact hT1) hB (by omega) (by first | omega | exact hn8 _ (by omega) (by omega)) ?_ ?_
          · intro (i5 : wd_m T (M 30 1).toNat (M 57 p))
            show Q 76 [(5, (0, 0, 1, 9, p + 1)), (4, (0, 0, (-2147483648), 2147483647, xa_ib 4 bb (xa_ib 6 1 p))), (2, (0, 0, 0, 1, x2)), (0, (2, 55, 0, 0, 0)), (1, (2, 30, 0, 0, 0)), (3, (2, 48, 0, 0, 0))] [] M
            have ei : ((p.toNat : Nat) : Int) = p := Int.toNat_of_nonneg (by omega)
            have f9 : (wd_P T (M 30 1) x2 (M 57) (M 56)) ((p.toNat : Nat) : Int) := by
              rw [ei]
              exact (wd_P0 (by omega)).mpr i5
            have eb : xa_ib 4 bb (xa_ib 6 1 p) = wd_b (wd_P T (M 30 1) x2 (M 57) (M 56)) (p + 1).toNat := by
              rw [show (p + 1).toNat = p.toNat + 1 by omega, wd_b1 f9, ← hb, ei]
            refine hgo.2.1 76 _ [(4, (0, 0, (-2147483648), 2147483647, xa_ib 4 bb (xa_ib 6 1 p))), (5, (0, 0, 0, 8, p + 1)), (2, (0, 0, 0, 1, x2)), (0, (2, 55, 0, 0, 0)), (1, (2, 30, 0, 0, 0)), (3, (2, 48, 0, 0, 0))] _ _ (xa_subI rfl rfl (fun _ _ _ _ => by omega) (xa_subI rfl rfl (fun _ _ _ _ => by omega) (xa_subI rfl rfl (fun _ _ _ _ => by omega) (xa_subR rfl (xa_subR rfl (xa_subR rfl (xa_sub0))))))) ?_
            exact ih _ (p + 1) (by omega) (by omega) eb (by omega)
          · intro (i6 : ¬ wd_m T (M 30 1).toNat (M 57 p))
            show Q 76 [(5, (0, 0, 1, 9, p + 1)), (4, (0, 0, (-2147483648), 2147483647, xa_ib 4 bb 0)), (2, (0, 0, 0, 1, x2)), (0, (2, 55, 0, 0, 0)), (1, (2, 30, 0, 0, 0)), (3, (2, 48, 0, 0, 0))] [] M
            have ei : ((p.toNat : Nat) : Int) = p := Int.toNat_of_nonneg (by omega)
            have f9 : ¬ (wd_P T (M 30 1) x2 (M 57) (M 56)) ((p.toNat : Nat) : Int) := by
              rw [ei]
              exact fun h => i6 ((wd_P0 (by omega)).mp h)
            have eb : xa_ib 4 bb 0 = wd_b (wd_P T (M 30 1) x2 (M 57) (M 56)) (p + 1).toNat := by
              rw [show (p + 1).toNat = p.toNat + 1 by omega, wd_b0 f9, ← hb, bk_or0 hr.1 hr.2]
            refine hgo.2.1 76 _ [(4, (0, 0, (-2147483648), 2147483647, xa_ib 4 bb 0)), (5, (0, 0, 0, 8, p + 1)), (2, (0, 0, 0, 1, x2)), (0, (2, 55, 0, 0, 0)), (1, (2, 30, 0, 0, 0)), (3, (2, 48, 0, 0, 0))] _ _ (xa_subI rfl rfl (fun _ _ _ _ => by omega) (xa_subI rfl rfl (fun _ _ _ _ => by omega) (xa_subI rfl rfl (fun _ _ _ _ => by omega) (xa_subR rfl (xa_subR rfl (xa_subR rfl (xa_sub0))))))) ?_
            exact ih _ (p + 1) (by omega) (by omega) eb (by omega)
  have loop1 : ∀ (f : Nat) (p : Int), 0 ≤ p ∧ p ≤ 4 → p ≤ M 30 1 → (∀ i, 0 ≤ i → i < p → wd_s (T i)) → 4 - p < (f : Int) → Q 3 [(4, (0, 0, 0, 4, p)), (2, (0, 0, 0, 1, x2)), (0, (2, 55, 0, 0, 0)), (1, (2, 30, 0, 0, 0)), (3, (2, 48, 0, 0, 0))] [] M := by
    intro f
    induction f with
    | zero => intro p p1 p2 hg hms; omega
    | succ f ih =>
      intro p p1 p2 hg hms
      refine hgo.1 27 [3, 76, 142] 3 _ _ _ ?_
      refine And.intro ?_ ?_
      · intro (c1 : (M 30 1) ≤ p)
        refine And.intro ?_ ?_
        · intro (c2 : ¬ (M 30 1) = 0)
          show Q 76 [(5, (0, 0, 0, 0, 0)), (4, (0, 0, 0, 0, 0)), (2, (0, 0, 0, 1, x2)), (0, (2, 55, 0, 0, 0)), (1, (2, 30, 0, 0, 0)), (3, (2, 48, 0, 0, 0))] [] M
          refine hgo.2.1 76 _ [(4, (0, 0, (-2147483648), 2147483647, 0)), (5, (0, 0, 0, 8, 0)), (2, (0, 0, 0, 1, x2)), (0, (2, 55, 0, 0, 0)), (1, (2, 30, 0, 0, 0)), (3, (2, 48, 0, 0, 0))] _ _ (xa_subI rfl rfl (fun _ _ _ _ => by omega) (xa_subI rfl rfl (fun _ _ _ _ => by omega) (xa_subI rfl rfl (fun _ _ _ _ => by omega) (xa_subR rfl (xa_subR rfl (xa_subR rfl (xa_sub0))))))) ?_
          exact loop2 (fun i g0 g1 g2 => hg i g0 (by omega)) (by omega) 9 0 0 (by omega) (by omega) rfl (by omega)
        · intro (c2 : (M 30 1) = 0)
          show xa_wk post (some (0, 0, (-100), (-100), (-100))) M
          exact xa_wkI (-100) rfl (fun _ _ => by omega) (k _ _ (Or.inr ⟨fun i g0 g1 g2 => hg i g0 (by omega), Or.inl ⟨by omega, rfl⟩⟩) (fun _ _ _ _ => rfl))
      · intro (c1 : p < (M 30 1))
        refine And.intro ?_ ?_
        · intro (c3 : 4 ≤ p)
          show xa_wk post (some (0, 0, (-104), (-100), (-100) - p)) M
          exact xa_wkI _ rfl (fun _ _ => by omega) (k _ _ (Or.inr ⟨fun i g0 g1 g2 => hg i g0 (by omega), Or.inr (Or.inl ⟨by omega, by omega⟩)⟩) (fun _ _ _ _ => rfl))
        · intro (c3 : p < 4)
          show xa_C (xl_I b) A h0 _ 118 [(2, 30, 0, 0, 0), (0, 0, 0, 4, p)] M _
          refine cg_118 (show 0 ≤ (M 30 1) ∧ (M 30 1) ≤ 80 by omega) ?_ ?_
          · intro (i4 : (0 ≤ p ∧ p < (M 30 1)) ∧ 48 ≤ M 31 p ∧ M 31 p ≤ 57)
            show Q 3 [(4, (0, 0, 1, 5, p + 1)), (5, (0, 0, 1, 1, 1)), (2, (0, 0, 0, 1, x2)), (0, (2, 55, 0, 0, 0)), (1, (2, 30, 0, 0, 0)), (3, (2, 48, 0, 0, 0))] [] M
            refine hgo.2.1 3 _ [(4, (0, 0, 0, 4, p + 1)), (2, (0, 0, 0, 1, x2)), (0, (2, 55, 0, 0, 0)), (1, (2, 30, 0, 0, 0)), (3, (2, 48, 0, 0, 0))] _ _ (xa_subI rfl rfl (fun _ _ _ _ => by omega) (xa_subI rfl rfl (fun _ _ _ _ => by omega) (xa_subR rfl (xa_subR rfl (xa_subR rfl (xa_sub0)))))) ?_
            exact ih (p + 1) (by omega) (by omega) (fun i g0 g1 => by
              by_cases e : i = p
              · rw [e]
                have t9 := hT p (by omega) (by omega)
                unfold wd_s
                omega
              · exact hg i g0 (by omega)) (by omega)
          · intro (i5 : ¬ ((0 ≤ p ∧ p < (M 30 1)) ∧ 48 ≤ M 31 p ∧ M 31 p ≤ 57))
            show xa_C (xl_I b) A h0 _ 172 [(2, 30, 0, 0, 0), (0, 0, 0, 4, p)] M _
            refine cg_172 (show 0 ≤ (M 30 1) ∧ (M 30 1) ≤ 80 by omega) ?_ ?_
            · intro (i6 : (0 ≤ p ∧ p < (M 30 1)) ∧ M 31 p = 63)
              show Q 3 [(4, (0, 0, 1, 5, p + 1)), (5, (0, 0, 1, 1, 1)), (2, (0, 0, 0, 1, x2)), (0, (2, 55, 0, 0, 0)), (1, (2, 30, 0, 0, 0)), (3, (2, 48, 0, 0, 0))] [] M
              refine hgo.2.1 3 _ [(4, (0, 0, 0, 4, p + 1)), (2, (0, 0, 0, 1, x2)), (0, (2, 55, 0, 0, 0)), (1, (2, 30, 0, 0, 0)), (3, (2, 48, 0, 0, 0))] _ _ (xa_subI rfl rfl (fun _ _ _ _ => by omega) (xa_subI rfl rfl (fun _ _ _ _ => by omega) (xa_subR rfl (xa_subR rfl (xa_subR rfl (xa_sub0)))))) ?_
              exact ih (p + 1) (by omega) (by omega) (fun i g0 g1 => by
                by_cases e : i = p
                · rw [e]
                  have t9 := hT p (by omega) (by omega)
                  unfold wd_s
                  omega
                · exact hg i g0 (by omega)) (by omega)
            · intro (i7 : ¬ ((0 ≤ p ∧ p < (M 30 1)) ∧ M 31 p = 63))
              show xa_wk post (some (0, 0, (-104), (-100), (-100) - p)) M
              have t9 := hT p (by omega) (by omega)
              exact xa_wkI _ rfl (fun _ _ => by omega) (k _ _ (Or.inl ⟨p, by omega, by omega, by omega, by unfold wd_s; omega, hg, by omega⟩) (fun _ _ _ _ => rfl))
  refine hgo.1 7 [3] 0 _ _ _ ?_
  show Q 3 [(4, (0, 0, 0, 0, 0)), (0, (2, 55, 0, 0, 0)), (1, (2, 30, 0, 0, 0)), (2, (0, 0, 0, 1, x2)), (3, (2, 48, 0, 0, 0))] [] M
  refine hgo.2.1 3 _ [(4, (0, 0, 0, 4, 0)), (2, (0, 0, 0, 1, x2)), (0, (2, 55, 0, 0, 0)), (1, (2, 30, 0, 0, 0)), (3, (2, 48, 0, 0, 0))] _ _ (xa_subI rfl rfl (fun _ _ _ _ => by omega) (xa_subI rfl rfl (fun _ _ _ _ => by omega) (xa_subR rfl (xa_subR rfl (xa_subR rfl (xa_sub0)))))) ?_
  exact loop1 5 0 (by omega) (by omega) (fun i g0 g1 => by omega) (by omega)
theorem cw_170_50 {A : Nat → Nat} {h0 : g_H} {d : Nat} {M : xa_M} {post : Option xa_V → xa_M → Prop} {T : Int → Int} {l1 u1 x1 : Int} (hT : (∀ i, 0 ≤ i → i < 80 → M 31 i = T i)) (hB : ∀ i, 0 ≤ T i ∧ T i ≤ 255) (hz : 0 ≤ M 30 1 ∧ M 30 1 ≤ 80) (hp : 0 ≤ M 50 4 ∧ M 50 4 ≤ 8) (hU : ∀ i, 0 ≤ i → i < M 50 4 → (0 ≤ M 51 i ∧ M 51 i ≤ 2000) ∧ (0 ≤ M 52 i ∧ M 52 i ≤ 2000)) (k : ∀ (r : Int) (M1 : xa_M), wd_W x1 (wd_A T (M 30 1) (wd_P T (M 30 1) x1 (M 52) (M 51)) (M 50 4).toNat r) r → M1 30 1 = 0 → (∀ q j, ¬ q = 48 → ¬ q = 49 → ¬ (q = 30 ∧ j = 1) → ¬ (q = 60 ∧ j = 21) → M1 q j = M q j) → post (some (0, 0, (-2147483648), 2147483647, r)) M1) : xa_C (xl_I false) A h0 (d + 6) 170 [(2, 0, 0, 0, 0), (0, 0, l1, u1, x1)] M post := by
  refine xa_C_wk ?_
  refine xa_C_arg [(2, 0, 0, 0, 0), (0, 0, (-2147483648), 2147483647, x1)] (xa_svR (xa_svI (fun _ _ _ _ => by omega) xa_sv0)) ?_
  refine xa_meth (Q0 := (3, 1, false, 0, 0, 11)) (by decide +kernel) ⟨rfl, rfl⟩ (full := s_c_170) rfl rfl ?_
  intro hM hv Q hgo
  refine hgo.1 25 [] 0 _ _ _ ?_
  refine And.intro ?_ ?_
  · intro (c1 : x1 < 0)
    show xa_C (xl_I false) A h0 _ 113 [(2, 30, 0, 0, 0), (0, 0, 0, 0, 0)] M _
    refine cx_113f ?_
    intro n126 M127 (i2 : lt_E M 30 1 (M 30 1) 0 n126 M127)
    show xa_wk post (some (0, 0, (-1), (-1), (-1))) M127
    have z30 : 0 ≤ M 30 1 := hz.1
    obtain ⟨h4, h5⟩ := le_cut z30 i2
    exact xa_wkI (-1) rfl (fun _ _ => by omega) (k _ _ (Or.inl ⟨by omega, rfl⟩) h4 (fun q j h1 h2 h3 h6 => (h5 q j h3 h6).trans rfl))
  · intro (c1 : 0 ≤ x1)
    refine And.intro ?_ ?_
    · intro (c3 : x1 ≤ 1)
      show xa_C (xl_I false) A h0 _ 171 [(2, 50, 0, 0, 0), (2, 30, 0, 0, 0), (0, 0, (-2147483648), 2147483647, x1), (2, 48, 0, 0, 0)] M _
      refine cx_171_50 hT hB hz hp hU (by omega) ?_
      intro r128 M129 (i4 : wd_A T (M 30 1) (wd_P T (M 30 1) x1 (M 52) (M 51)) (M 50 4).toNat r128) (i5 : ∀ q j, ¬ q = 48 → ¬ q = 49 → M129 q j = M q j)
      show xa_C (xl_I false) A h0 _ 113 [(2, 30, 0, 0, 0), (0, 0, 0, 0, 0)] M129 _
      refine cx_113f ?_
      intro n130 M131 (i6 : lt_E M129 30 1 (M129 30 1) 0 n130 M131)
      show xa_wk post (some (0, 0, (-2147483648), 2147483647, r128)) M131
      have z30 : 0 ≤ M129 30 1 := by rw [i5 30 1 (by decide) (by decide)]; exact hz.1
      obtain ⟨h4, h5⟩ := le_cut z30 i6
      exact xa_wkI _ rfl (fun _ _ => by omega) (k _ _ (Or.inr ⟨by omega, i4⟩) h4 (fun q j h1 h2 h3 h6 => (h5 q j h3 h6).trans (i5 q j h1 h2)))
    · intro (c3 : 1 < x1)
      show xa_C (xl_I false) A h0 _ 113 [(2, 30, 0, 0, 0), (0, 0, 0, 0, 0)] M _
      refine cx_113f ?_
      intro n132 M133 (i7 : lt_E M 30 1 (M 30 1) 0 n132 M133)
      show xa_wk post (some (0, 0, (-1), (-1), (-1))) M133
      have z30 : 0 ≤ M 30 1 := hz.1
      obtain ⟨h4, h5⟩ := le_cut z30 i7
      exact xa_wkI (-1) rfl (fun _ _ => by omega) (k _ _ (Or.inl ⟨by omega, rfl⟩) h4 (fun q j h1 h2 h3 h6 => (h5 q j h3 h6).trans rfl))
theorem cw_170_55 {A : Nat → Nat} {h0 : g_H} {d : Nat} {M : xa_M} {post : Option xa_V → xa_M → Prop} {T : Int → Int} {l1 u1 x1 : Int} (hT : (∀ i, 0 ≤ i → i < 80 → M 31 i = T i)) (hB : ∀ i, 0 ≤ T i ∧ T i ≤ 255) (hz : 0 ≤ M 30 1 ∧ M 30 1 ≤ 80) (hp : 0 ≤ M 55 4 ∧ M 55 4 ≤ 8) (hU : ∀ i, 0 ≤ i → i < M 55 4 → (0 ≤ M 56 i ∧ M 56 i ≤ 2000) ∧ (0 ≤ M 57 i ∧ M 57 i ≤ 2000)) (k : ∀ (r : Int) (M1 : xa_M), wd_W x1 (wd_A T (M 30 1) (wd_P T (M 30 1) x1 (M 57) (M 56)) (M 55 4).toNat r) r → M1 30 1 = 0 → (∀ q j, ¬ q = 48 → ¬ q = 49 → ¬ (q = 30 ∧ j = 1) → ¬ (q = 60 ∧ j = 21) → M1 q j = M q j) → post (some (0, 0, (-2147483648), 2147483647, r)) M1) : xa_C (xl_I true) A h0 (d + 6) 170 [(2, 0, 0, 0, 0), (0, 0, l1, u1, x1)] M post := by
  refine xa_C_wk ?_
  refine xa_C_arg [(2, 0, 0, 0, 0), (0, 0, (-2147483648), 2147483647, x1)] (xa_svR (xa_svI (fun _ _ _ _ => by omega) xa_sv0)) ?_
  refine xa_meth (Q0 := (3, 1, false, 0, 0, 11)) (by decide +kernel) ⟨rfl, rfl⟩ (full := s_c_170) rfl rfl ?_
  intro hM hv Q hgo
  refine hgo.1 25 [] 0 _ _ _ ?_
  refine And.intro ?_ ?_
  · intro (c1 : x1 < 0)
    show xa_C (xl_I true) A h0 _ 113 [(2, 30, 0, 0, 0), (0, 0, 0, 0, 0)] M _
    refine cx_113f ?_
    intro n134 M135 (i2 : lt_E M 30 1 (M 30 1) 0 n134 M135)
    show xa_wk post (some (0, 0, (-1), (-1), (-1))) M135
    have z30 : 0 ≤ M 30 1 := hz.1
    obtain ⟨h4, h5⟩ := le_cut z30 i2
    exact xa_wkI (-1) rfl (fun _ _ => by omega) (k _ _ (Or.inl ⟨by omega, rfl⟩) h4 (fun q j h1 h2 h3 h6 => (h5 q j h3 h6).trans rfl))
  · intro (c1 : 0 ≤ x1)
    refine And.intro ?_ ?_
    · intro (c3 : x1 ≤ 1)
      show xa_C (xl_I true) A h0 _ 171 [(2, 55, 0, 0, 0), (2, 30, 0, 0, 0), (0, 0, (-2147483648), 2147483647, x1), (2, 48, 0, 0, 0)] M _
      refine cx_171_55 hT hB hz hp hU (by omega) ?_
      intro r136 M137 (i4 : wd_A T (M 30 1) (wd_P T (M 30 1) x1 (M 57) (M 56)) (M 55 4).toNat r136) (i5 : ∀ q j, ¬ q = 48 → ¬ q = 49 → M137 q j = M q j)
      show xa_C (xl_I true) A h0 _ 113 [(2, 30, 0, 0, 0), (0, 0, 0, 0, 0)] M137 _
      refine cx_113f ?_
      intro n138 M139 (i6 : lt_E M137 30 1 (M137 30 1) 0 n138 M139)
      show xa_wk post (some (0, 0, (-2147483648), 2147483647, r136)) M139
      have z30 : 0 ≤ M137 30 1 := by rw [i5 30 1 (by decide) (by decide)]; exact hz.1
      obtain ⟨h4, h5⟩ := le_cut z30 i6
      exact xa_wkI _ rfl (fun _ _ => by omega) (k _ _ (Or.inr ⟨by omega, i4⟩) h4 (fun q j h1 h2 h3 h6 => (h5 q j h3 h6).trans (i5 q j h1 h2)))
    · intro (c3 : 1 < x1)
      show xa_C (xl_I true) A h0 _ 113 [(2, 30, 0, 0, 0), (0, 0, 0, 0, 0)] M _
      refine cx_113f ?_
      intro n140 M141 (i7 : lt_E M 30 1 (M 30 1) 0 n140 M141)
      show xa_wk post (some (0, 0, (-1), (-1), (-1))) M141
      have z30 : 0 ≤ M 30 1 := hz.1
      obtain ⟨h4, h5⟩ := le_cut z30 i7
      exact xa_wkI (-1) rfl (fun _ _ => by omega) (k _ _ (Or.inl ⟨by omega, rfl⟩) h4 (fun q j h1 h2 h3 h6 => (h5 q j h3 h6).trans rfl))
theorem cw_170 {b : Bool} {A : Nat → Nat} {h0 : g_H} {d : Nat} {M : xa_M} {post : Option xa_V → xa_M → Prop} {T : Int → Int} {l1 u1 x1 : Int} (hT : (∀ i, 0 ≤ i → i < 80 → M 31 i = T i)) (hB : ∀ i, 0 ≤ T i ∧ T i ≤ 255) (hz : 0 ≤ M 30 1 ∧ M 30 1 ≤ 80) (hp : 0 ≤ M (bk_p b) 4 ∧ M (bk_p b) 4 ≤ 8) (hU : ∀ i, 0 ≤ i → i < M (bk_p b) 4 → (0 ≤ M (bk_p b + 1) i ∧ M (bk_p b + 1) i ≤ 2000) ∧ (0 ≤ M (bk_p b + 2) i ∧ M (bk_p b + 2) i ≤ 2000)) (k : ∀ (r : Int) (M1 : xa_M), wd_W x1 (wd_A T (M 30 1) (wd_P T (M 30 1) x1 (M (bk_p b + 2)) (M (bk_p b + 1))) (M (bk_p b) 4).toNat r) r → M1 30 1 = 0 → (∀ q j, ¬ q = 48 → ¬ q = 49 → ¬ (q = 30 ∧ j = 1) → ¬ (q = 60 ∧ j = 21) → M1 q j = M q j) → post (some (0, 0, (-2147483648), 2147483647, r)) M1) : xa_C (xl_I b) A h0 (d + 6) 170 [(2, 0, 0, 0, 0), (0, 0, l1, u1, x1)] M post := by
  cases b
  · exact cw_170_50 hT hB hz hp hU k
  · exact cw_170_55 hT hB hz hp hU k
theorem ct_isWordF {A : Nat → Nat} {h0 : g_H} {d : Nat} {M : xa_M} {post : Option xa_V → xa_M → Prop} {T : Int → Int} {l1 u1 l2 u2 a b : Int} (hT : ∀ i, 0 ≤ i → i < 80 → T i = M 73 i % 256) (ha : 0 ≤ a ∧ a ≤ 2000) (hb1 : 1 ≤ b ∧ b ≤ 4) (k1 : wd_m T b.toNat a → post (some (0, 0, 1, 1, 1)) M) (k2 : ¬ wd_m T b.toNat a → post (some (0, 0, 0, 0, 0)) M) : xa_C xm_I A h0 (d + 1) 280 [(2, 60, 0, 0, 0), (0, 0, l1, u1, a), (0, 0, l2, u2, b)] M post := by
  refine xa_C_arg [(2, 60, 0, 0, 0), (0, 0, 0, 2000, a), (0, 0, 1, 4, b)] (xa_svR (xa_svI (fun _ _ _ _ => by omega) (xa_svI (fun _ _ _ _ => by omega) xa_sv0))) ?_
  refine xa_meth (Q0 := (5, 2, false, 0, 0, 12)) (by decide +kernel) ⟨rfl, rfl⟩ (full := s_c_280) rfl rfl ?_
  intro hM hv Q hgo
  have loop : ∀ (f : Nat) (i r : Int), -1 ≤ i ∧ i ≤ 3 → 0 ≤ r ∧ r ≤ 2000 → (wd_m T (i + 1).toNat r ↔ wd_m T b.toNat a) → i + 1 < (f : Int) → Q 7 [(4, (0, 0, (-1), 3, i)), (3, (0, 0, 0, 2000, r)), (2, (0, 0, 1, 4, b)), (0, (2, 60, 0, 0, 0))] [] M := by
    intro f
    induction f with
    | zero => intro i r i1 r1 hb hms; omega
    | succ f ih =>
      intro i r i1 r1 hb hms
      refine hgo.1 31 [7] 7 _ _ _ ?_
      refine And.intro ?_ ?_
      · intro (c1 : i < 0)
        refine And.intro ?_ ?_
        · intro (c2 : ¬ r = 0)
          show post (some (0, 0, 0, 0, 0)) M
          exact k2 (fun h => absurd ((wd_end (by omega) hb).mpr h) (by omega))
        · intro (c2 : r = 0)
          show post (some (0, 0, 1, 1, 1)) M
          exact k1 ((wd_end (by omega) hb).mp (by omega))
      · intro (c1 : 0 ≤ i)
        refine And.intro ?_ ?_
        · intro (c3 : r = 0)
          show post (some (0, 0, 0, 0, 0)) M
          exact k2 (wd_no1 (by omega) (by omega) hb)
        · intro (c3 : ¬ r = 0)
          refine And.intro (show 0 ≤ i ∧ i < 80 by omega) ?_
          refine And.intro ?_ ?_
          · intro (c4 : (M 73 i) = 63)
            show Q 7 [(4, (0, 0, (-2), 2, i + (-1))), (3, (0, 0, 0, 2000, r / 10)), (2, (0, 0, 1, 4, b)), (0, (2, 60, 0, 0, 0))] [] M
            have t9 := hT i (by omega) (by omega)
            have h9 := xm_t73 hM i (by omega) (by omega)
            have q9 : T i = 63 ∨ T i - 48 = r % 10 := by omega
            refine hgo.2.1 7 _ [(4, (0, 0, (-1), 3, i + (-1))), (3, (0, 0, 0, 2000, r / 10)), (2, (0, 0, 1, 4, b)), (0, (2, 60, 0, 0, 0))] _ _ (xa_subI rfl rfl (fun _ _ _ _ => by omega) (xa_subI rfl rfl (fun _ _ _ _ => by omega) (xa_subI rfl rfl (fun _ _ _ _ => by omega) (xa_subR rfl (xa_sub0))))) ?_
            exact ih (i + (-1)) (r / 10) (by omega) (by omega) (wd_st (by omega) (by omega) q9 hb) (by omega)
          · intro (c4 : ¬ (M 73 i) = 63)
            refine And.intro (show 0 ≤ i ∧ i < 80 by omega) ?_
            refine And.intro ?_ ?_
            · intro (c5 : ((M 73 i) - 48) = (r % 10))
              show Q 7 [(4, (0, 0, (-2), 2, i + (-1))), (3, (0, 0, 0, 2000, r / 10)), (2, (0, 0, 1, 4, b)), (0, (2, 60, 0, 0, 0))] [] M
              have t9 := hT i (by omega) (by omega)
              have h9 := xm_t73 hM i (by omega) (by omega)
              have q9 : T i = 63 ∨ T i - 48 = r % 10 := by omega
              refine hgo.2.1 7 _ [(4, (0, 0, (-1), 3, i + (-1))), (3, (0, 0, 0, 2000, r / 10)), (2, (0, 0, 1, 4, b)), (0, (2, 60, 0, 0, 0))] _ _ (xa_subI rfl rfl (fun _ _ _ _ => by omega) (xa_subI rfl rfl (fun _ _ _ _ => by omega) (xa_subI rfl rfl (fun _ _ _ _ => by omega) (xa_subR rfl (xa_sub0))))) ?_
              exact ih (i + (-1)) (r / 10) (by omega) (by omega) (wd_st (by omega) (by omega) q9 hb) (by omega)
            · intro (c5 : ¬ ((M 73 i) - 48) = (r % 10))
              show post (some (0, 0, 0, 0, 0)) M
              have t9 := hT i (by omega) (by omega)
              have h9 := xm_t73 hM i (by omega) (by omega)
              exact k2 (wd_no2 (by omega) (by omega) hb)
  refine hgo.1 11 [7] 0 _ _ _ ?_
  show Q 7 [(4, (0, 0, 0, 3, b - 1)), (3, (0, 0, 0, 2000, a)), (0, (2, 60, 0, 0, 0)), (1, (0, 0, 0, 2000, a)), (2, (0, 0, 1, 4, b))] [] M
  refine hgo.2.1 7 _ [(4, (0, 0, (-1), 3, b - 1)), (3, (0, 0, 0, 2000, a)), (2, (0, 0, 1, 4, b)), (0, (2, 60, 0, 0, 0))] _ _ (xa_subI rfl rfl (fun _ _ _ _ => by omega) (xa_subI rfl rfl (fun _ _ _ _ => by omega) (xa_subI rfl rfl (fun _ _ _ _ => by omega) (xa_subR rfl (xa_sub0))))) ?_
  exact loop 5 (b - 1) a (by omega) (by omega) (by rw [show b - 1 + 1 = b by omega]) (by omega)
theorem ms_wordF {A : Nat → Nat} {h0 : g_H} {d : Nat} {M : xa_M} {post : Option xa_V → xa_M → Prop} {T : Int → Int} {l1 u1 x1 : Int} (hT : ∀ i, 0 ≤ i → i < 80 → T i = M 73 i % 256) (k : ∀ (r : Int) (M1 : xa_M), wd_W x1 (wd_A T (M 60 18) (wd_P T (M 60 18) x1 (M 71) (M 70)) (M 60 11).toNat r) r → xm_cor (xa_up (xa_up M 60 21 0) 60 18 0) M1 → post (some (0, 0, (-2147483648), 2147483647, r)) M1) : xa_C xm_I A h0 (d + 2) 279 [(2, 60, 0, 0, 0), (0, 0, l1, u1, x1)] M post := by
  refine xa_C_wk ?_
  refine xa_C_arg [(2, 60, 0, 0, 0), (0, 0, (-2147483648), 2147483647, x1)] (xa_svR (xa_svI (fun _ _ _ _ => by omega) xa_sv0)) ?_
  refine xa_meth (Q0 := (6, 1, false, 0, 0, 12)) (by decide +kernel) ⟨rfl, rfl⟩ (full := s_c_279) rfl rfl ?_
  intro hM hv Q hgo
  have b18 := xm_f18 hM
  have b11 := xm_f11 hM
  have loop3 : (0 ≤ x1 ∧ x1 ≤ 1) → ∀ (M1 : xa_M), xm_cor (xa_up (xa_up M 60 21 0) 60 18 0) M1 → ∀ (sz : Int), sz = M 60 18 → (∀ i, 0 ≤ i → i < sz → i < 4 → wd_s (T i)) → (1 ≤ sz ∧ sz ≤ 4) → ∀ (f : Nat) (bb al n : Int), 1 ≤ n ∧ n ≤ 2001 → 0 ≤ al ∧ al < n → bb = wd_b (wd_P T (M 60 18) x1 (M 71) (M 70)) (M 60 11).toNat → 2001 - n < (f : Int) → Q 153 [(5, (0, 0, 1, 2001, n)), (4, (0, 0, 0, 2000, al)), (3, (0, 0, (-2147483648), 2147483647, bb)), (2, (0, 0, 1, 4, sz)), (0, (2, 60, 0, 0, 0))] [] M1 := by
    intro hx M1 hc0 sz hs9 hg hs f
    have h73 : ∀ i, M1 73 i = M 73 i := fun i => (hc0 73 i (by unfold xm_scr; omega)).trans ((xa_up_ne (by omega)).trans (xa_up_ne (by omega)))
    have k70 : ∀ i, M1 70 i = M 70 i := fun i => (hc0 70 i (by unfold xm_scr; omega)).trans ((xa_up_ne (by omega)).trans (xa_up_ne (by omega)))
    have k71 : ∀ i, M1 71 i = M 71 i := fun i => (hc0 71 i (by unfold xm_scr; omega)).trans ((xa_up_ne (by omega)).trans (xa_up_ne (by omega)))
    have e11 : M1 60 11 = M 60 11 := (hc0 60 11 (by unfold xm_scr; omega)).trans ((xa_up_ne (by omega)).trans (xa_up_ne (by omega)))
    have hT1 : ∀ i, 0 ≤ i → i < 80 → T i = M1 73 i % 256 := fun i i0 i1 => by rw [h73 i]; exact hT i i0 i1
    induction f with
    | zero => intro bb al n n1 a1 hb hms; omega
    | succ f ih =>
      intro bb al n n1 a1 hb hms
      refine hgo.1 20 [28, 96, 153] 153 _ _ _ ?_
      refine And.intro ?_ ?_
      · intro (c1 : 2000 < n)
        show xa_C xm_I A h0 _ 231 [(2, 60, 0, 0, 0), (1, 0, 0, 2000, al)] (xa_up M1 60 20 0) _
        refine ct_tell (n := 0) (by first | rfl | (simp [xa_up]; done) | omega) (by omega) (by omega) ?_
        show xa_wk post (some (0, 0, (-2147483648), 2147483647, bb)) (xa_up (xa_up (xa_up M1 60 20 0) 74 0 al) 60 20 1)
        exact xa_wkI bb rfl (fun _ _ => by omega) (k _ _ (Or.inr ⟨by omega, Or.inr ⟨by rw [← hs9]; exact hg, Or.inr (Or.inr ⟨by omega, by omega, hb⟩)⟩⟩) (xm_cor_u (by unfold xm_scr; omega) (xm_cor_u (by unfold xm_scr; omega) (xm_cor_u (by unfold xm_scr; omega) (hc0)))))
      · intro (c1 : n ≤ 2000)
        show xa_C xm_I A h0 _ 280 [(2, 60, 0, 0, 0), (0, 0, 1, 2001, n), (0, 0, 1, 4, sz)] M1 _
        refine ct_isWordF hT1 (by first | omega | exact hn8) (by omega) ?_ ?_
        · intro (i2 : wd_m T (sz).toNat n)
          show Q 153 [(5, (0, 0, 2, 2002, n + 1)), (4, (0, 0, 1, 2001, al + 1)), (3, (0, 0, (-2147483648), 2147483647, bb)), (2, (0, 0, 1, 4, sz)), (0, (2, 60, 0, 0, 0))] [] M1
          refine hgo.2.1 153 _ [(5, (0, 0, 1, 2001, n + 1)), (4, (0, 0, 0, 2000, al + 1)), (3, (0, 0, (-2147483648), 2147483647, bb)), (2, (0, 0, 1, 4, sz)), (0, (2, 60, 0, 0, 0))] _ _ (xa_subI rfl rfl (fun _ _ _ _ => by omega) (xa_subI rfl rfl (fun _ _ _ _ => by omega) (xa_subI rfl rfl (fun _ _ _ _ => by omega) (xa_subI rfl rfl (fun _ _ _ _ => by omega) (xa_subR rfl (xa_sub0)))))) ?_
          exact ih bb (al + 1) (n + 1) (by omega) (by omega) hb (by omega)
        · intro (i3 : ¬ wd_m T (sz).toNat n)
          show Q 153 [(5, (0, 0, 2, 2002, n + 1)), (4, (0, 0, 0, 2000, al + 0)), (3, (0, 0, (-2147483648), 2147483647, bb)), (2, (0, 0, 1, 4, sz)), (0, (2, 60, 0, 0, 0))] [] M1
          refine hgo.2.1 153 _ [(5, (0, 0, 1, 2001, n + 1)), (4, (0, 0, 0, 2000, al + 0)), (3, (0, 0, (-2147483648), 2147483647, bb)), (2, (0, 0, 1, 4, sz)), (0, (2, 60, 0, 0, 0))] _ _ (xa_subI rfl rfl (fun _ _ _ _ => by omega) (xa_subI rfl rfl (fun _ _ _ _ => by omega) (xa_subI rfl rfl (fun _ _ _ _ => by omega) (xa_subI rfl rfl (fun _ _ _ _ => by omega) (xa_subR rfl (xa_sub0)))))) ?_
          exact ih bb (al + 0) (n + 1) (by omega) (by omega) hb (by omega)
  have loop2 : (0 ≤ x1 ∧ x1 ≤ 1) → ∀ (M1 : xa_M), xm_cor (xa_up (xa_up M 60 21 0) 60 18 0) M1 → ∀ (sz : Int), sz = M 60 18 → (∀ i, 0 ≤ i → i < sz → i < 4 → wd_s (T i)) → (1 ≤ sz ∧ sz ≤ 4) → ∀ (f : Nat) (bb p : Int), 0 ≤ p ∧ p ≤ M 60 11 → bb = wd_b (wd_P T (M 60 18) x1 (M 71) (M 70)) p.toNat → 8 - p < (f : Int) → Q 96 [(4, (0, 0, 0, 8, p)), (3, (0, 0, (-2147483648), 2147483647, bb)), (2, (0, 0, 1, 4, sz)), (1, (0, 0, 0, 1, x1)), (0, (2, 60, 0, 0, 0))] [] M1 := by
    intro hx M1 hc0 sz hs9 hg hs f
    have loop3 := loop3 hx M1 hc0
    have h73 : ∀ i, M1 73 i = M 73 i := fun i => (hc0 73 i (by unfold xm_scr; omega)).trans ((xa_up_ne (by omega)).trans (xa_up_ne (by omega)))
    have k70 : ∀ i, M1 70 i = M 70 i := fun i => (hc0 70 i (by unfold xm_scr; omega)).trans ((xa_up_ne (by omega)).trans (xa_up_ne (by omega)))
    have k71 : ∀ i, M1 71 i = M 71 i := fun i => (hc0 71 i (by unfold xm_scr; omega)).trans ((xa_up_ne (by omega)).trans (xa_up_ne (by omega)))
    have e11 : M1 60 11 = M 60 11 := (hc0 60 11 (by unfold xm_scr; omega)).trans ((xa_up_ne (by omega)).trans (xa_up_ne (by omega)))
    have hT1 : ∀ i, 0 ≤ i → i < 80 → T i = M1 73 i % 256 := fun i i0 i1 => by rw [h73 i]; exact hT i i0 i1
    induction f with
    | zero => intro bb p p1 hb hms; omega
    | succ f ih =>
      intro bb p p1 hb hms
      refine hgo.2.2 _ _ _ _ (fun hM1 _ => ?_)
      have t70 := xm_t70 hM1 p
      have t71 := xm_t71 hM1 p
      refine hgo.1 28 [28, 96, 153] 96 _ _ _ ?_
      refine And.intro ?_ ?_
      · intro (c1 : (M1 60 11) ≤ p)
        show Q 153 [(5, (0, 0, 1, 1, 1)), (4, (0, 0, 0, 0, 0)), (3, (0, 0, (-2147483648), 2147483647, bb)), (2, (0, 0, 1, 4, sz)), (1, (0, 0, 0, 1, x1)), (0, (2, 60, 0, 0, 0))] [] M1
        refine hgo.2.1 153 _ [(5, (0, 0, 1, 2001, 1)), (4, (0, 0, 0, 2000, 0)), (3, (0, 0, (-2147483648), 2147483647, bb)), (2, (0, 0, 1, 4, sz)), (0, (2, 60, 0, 0, 0))] _ _ (xa_subI rfl rfl (fun _ _ _ _ => by omega) (xa_subI rfl rfl (fun _ _ _ _ => by omega) (xa_subI rfl rfl (fun _ _ _ _ => by omega) (xa_subI rfl rfl (fun _ _ _ _ => by omega) (xa_subR rfl (xa_sub0)))))) ?_
        exact loop3 sz hs9 hg hs 2001 bb 0 1 (by omega) (by omega) (by rw [hb, show p = M 60 11 by omega]) (by omega)
      · intro (c1 : p < (M1 60 11))
        refine And.intro ?_ ?_
        · intro (c2 : ¬ x1 = 0)
          refine And.intro (show 0 ≤ p ∧ p < 8 by omega) ?_
          show xa_C xm_I A h0 _ 280 [(2, 60, 0, 0, 0), (0, 0, 0, 2000, M1 70 p), (0, 0, 1, 4, sz)] M1 _
          refine ct_isWordF hT1 (by first | omega | exact hn8) (by omega) ?_ ?_
          · intro (i3 : wd_m T (sz).toNat (M1 70 p))
            show Q 96 [(4, (0, 0, 1, 9, p + 1)), (3, (0, 0, (-2147483648), 2147483647, xa_ib 4 bb (xa_ib 6 1 p))), (2, (0, 0, 1, 4, sz)), (1, (0, 0, 0, 1, x1)), (0, (2, 60, 0, 0, 0))] [] M1
            have ei : ((p.toNat : Nat) : Int) = p := Int.toNat_of_nonneg (by omega)
            have w8 := i3
            rw [hs9, k70 p] at w8
            have f9 : (wd_P T (M 60 18) x1 (M 71) (M 70)) ((p.toNat : Nat) : Int) := by
              rw [ei]
              exact (wd_P1 (by omega)).mpr w8
            have eb : xa_ib 4 bb (xa_ib 6 1 p) = wd_b (wd_P T (M 60 18) x1 (M 71) (M 70)) (p + 1).toNat := by
              rw [show (p + 1).toNat = p.toNat + 1 by omega, wd_b1 f9, ← hb, ei]
            refine hgo.2.1 96 _ [(4, (0, 0, 0, 8, p + 1)), (3, (0, 0, (-2147483648), 2147483647, xa_ib 4 bb (xa_ib 6 1 p))), (2, (0, 0, 1, 4, sz)), (1, (0, 0, 0, 1, x1)), (0, (2, 60, 0, 0, 0))] _ _ (xa_subI rfl rfl (fun _ _ _ _ => by omega) (xa_subI rfl rfl (fun _ _ _ _ => by omega) (xa_subI rfl rfl (fun _ _ _ _ => by omega) (xa_subI rfl rfl (fun _ _ _ _ => by omega) (xa_subR rfl (xa_sub0)))))) ?_
            exact ih _ (p + 1) (by omega) eb (by omega)
          · intro (i4 : ¬ wd_m T (sz).toNat (M1 70 p))
            show Q 96 [(4, (0, 0, 1, 9, p + 1)), (3, (0, 0, (-2147483648), 2147483647, bb)), (2, (0, 0, 1, 4, sz)), (1, (0, 0, 0, 1, x1)), (0, (2, 60, 0, 0, 0))] [] M1
            have ei : ((p.toNat : Nat) : Int) = p := Int.toNat_of_nonneg (by omega)
            have w8 := i4
            rw [hs9, k70 p] at w8
            have f9 : ¬ (wd_P T (M 60 18) x1 (M 71) (M 70)) ((p.toNat : Nat) : Int) := by
              rw [ei]
              exact fun h => w8 ((wd_P1 (by omega)).mp h)
            have eb : bb = wd_b (wd_P T (M 60 18) x1 (M 71) (M 70)) (p + 1).toNat := by
              rw [show (p + 1).toNat = p.toNat + 1 by omega, wd_b0 f9, ← hb]
            refine hgo.2.1 96 _ [(4, (0, 0, 0, 8, p + 1)), (3, (0, 0, (-2147483648), 2147483647, bb)), (2, (0, 0, 1, 4, sz)), (1, (0, 0, 0, 1, x1)), (0, (2, 60, 0, 0, 0))] _ _ (xa_subI rfl rfl (fun _ _ _ _ => by omega) (xa_subI rfl rfl (fun _ _ _ _ => by omega) (xa_subI rfl rfl (fun _ _ _ _ => by omega) (xa_subI rfl rfl (fun _ _ _ _ => by omega) (xa_subR rfl (xa_sub0)))))) ?_
            exact ih _ (p + 1) (by omega) eb (by omega)
        · intro (c2 : x1 = 0)
          refine And.intro (show 0 ≤ p ∧ p < 8 by omega) ?_
          show xa_C xm_I A h0 _ 280 [(2, 60, 0, 0, 0), (0, 0, 0, 2000, M1 71 p), (0, 0, 1, 4, sz)] M1 _
          refine ct_isWordF hT1 (by first | omega | exact hn8) (by omega) ?_ ?_
          · intro (i5 : wd_m T (sz).toNat (M1 71 p))
            show Q 96 [(4, (0, 0, 1, 9, p + 1)), (3, (0, 0, (-2147483648), 2147483647, xa_ib 4 bb (xa_ib 6 1 p))), (2, (0, 0, 1, 4, sz)), (1, (0, 0, 0, 1, x1)), (0, (2, 60, 0, 0, 0))] [] M1
            have ei : ((p.toNat : Nat) : Int) = p := Int.toNat_of_nonneg (by omega)
            have w8 := i5
            rw [hs9, k71 p] at w8
            have f9 : (wd_P T (M 60 18) x1 (M 71) (M 70)) ((p.toNat : Nat) : Int) := by
              rw [ei]
              exact (wd_P0 (by omega)).mpr w8
            have eb : xa_ib 4 bb (xa_ib 6 1 p) = wd_b (wd_P T (M 60 18) x1 (M 71) (M 70)) (p + 1).toNat := by
              rw [show (p + 1).toNat = p.toNat + 1 by omega, wd_b1 f9, ← hb, ei]
            refine hgo.2.1 96 _ [(4, (0, 0, 0, 8, p + 1)), (3, (0, 0, (-2147483648), 2147483647, xa_ib 4 bb (xa_ib 6 1 p))), (2, (0, 0, 1, 4, sz)), (1, (0, 0, 0, 1, x1)), (0, (2, 60, 0, 0, 0))] _ _ (xa_subI rfl rfl (fun _ _ _ _ => by omega) (xa_subI rfl rfl (fun _ _ _ _ => by omega) (xa_subI rfl rfl (fun _ _ _ _ => by omega) (xa_subI rfl rfl (fun _ _ _ _ => by omega) (xa_subR rfl (xa_sub0)))))) ?_
            exact ih _ (p + 1) (by omega) eb (by omega)
          · intro (i6 : ¬ wd_m T (sz).toNat (M1 71 p))
            show Q 96 [(4, (0, 0, 1, 9, p + 1)), (3, (0, 0, (-2147483648), 2147483647, bb)), (2, (0, 0, 1, 4, sz)), (1, (0, 0, 0, 1, x1)), (0, (2, 60, 0, 0, 0))] [] M1
            have ei : ((p.toNat : Nat) : Int) = p := Int.toNat_of_nonneg (by omega)
            have w8 := i6
            rw [hs9, k71 p] at w8
            have f9 : ¬ (wd_P T (M 60 18) x1 (M 71) (M 70)) ((p.toNat : Nat) : Int) := by
              rw [ei]
              exact fun h => w8 ((wd_P0 (by omega)).mp h)
            have eb : bb = wd_b (wd_P T (M 60 18) x1 (M 71) (M 70)) (p + 1).toNat := by
              rw [show (p + 1).toNat = p.toNat + 1 by omega, wd_b0 f9, ← hb]
            refine hgo.2.1 96 _ [(4, (0, 0, 0, 8, p + 1)), (3, (0, 0, (-2147483648), 2147483647, bb)), (2, (0, 0, 1, 4, sz)), (1, (0, 0, 0, 1, x1)), (0, (2, 60, 0, 0, 0))] _ _ (xa_subI rfl rfl (fun _ _ _ _ => by omega) (xa_subI rfl rfl (fun _ _ _ _ => by omega) (xa_subI rfl rfl (fun _ _ _ _ => by omega) (xa_subI rfl rfl (fun _ _ _ _ => by omega) (xa_subR rfl (xa_sub0)))))) ?_
            exact ih _ (p + 1) (by omega) eb (by omega)
  have loop1 : (0 ≤ x1 ∧ x1 ≤ 1) → ∀ (sz : Int), sz = M 60 18 → ∀ (M1 : xa_M), xm_cor (xa_up (xa_up M 60 21 0) 60 18 0) M1 → ∀ (f : Nat) (p : Int), 0 ≤ p ∧ p ≤ 4 ∧ p ≤ sz → (∀ i, 0 ≤ i → i < p → wd_s (T i)) → 4 - p < (f : Int) → Q 28 [(3, (0, 0, 0, 4, p)), (2, (0, 0, 0, 80, sz)), (1, (0, 0, 0, 1, x1)), (0, (2, 60, 0, 0, 0))] [] M1 := by
    intro hx sz hs9 M1 hc0 f
    have loop2 := loop2 hx M1 hc0
    have h73 : ∀ i, M1 73 i = M 73 i := fun i => (hc0 73 i (by unfold xm_scr; omega)).trans ((xa_up_ne (by omega)).trans (xa_up_ne (by omega)))
    have k70 : ∀ i, M1 70 i = M 70 i := fun i => (hc0 70 i (by unfold xm_scr; omega)).trans ((xa_up_ne (by omega)).trans (xa_up_ne (by omega)))
    have k71 : ∀ i, M1 71 i = M 71 i := fun i => (hc0 71 i (by unfold xm_scr; omega)).trans ((xa_up_ne (by omega)).trans (xa_up_ne (by omega)))
    have e11 : M1 60 11 = M 60 11 := (hc0 60 11 (by unfold xm_scr; omega)).trans ((xa_up_ne (by omega)).trans (xa_up_ne (by omega)))
    have hT1 : ∀ i, 0 ≤ i → i < 80 → T i = M1 73 i % 256 := fun i i0 i1 => by rw [h73 i]; exact hT i i0 i1
    induction f with
    | zero => intro p p1 hg hms; omega
    | succ f ih =>
      intro p p1 hg hms
      refine hgo.2.2 _ _ _ _ (fun hM1 _ => ?_)
      refine hgo.1 28 [28, 96, 153] 28 _ _ _ ?_
      refine And.intro ?_ ?_
      · intro (c1 : sz ≤ p)
        refine And.intro ?_ ?_
        · intro (c2 : ¬ sz = 0)
          refine And.intro ?_ ?_
          · intro (c3 : sz ≤ 4)
            show Q 96 [(4, (0, 0, 0, 0, 0)), (3, (0, 0, 0, 0, 0)), (2, (0, 0, 0, 80, sz)), (1, (0, 0, 0, 1, x1)), (0, (2, 60, 0, 0, 0))] [] M1
            refine hgo.2.1 96 _ [(4, (0, 0, 0, 8, 0)), (3, (0, 0, (-2147483648), 2147483647, 0)), (2, (0, 0, 1, 4, sz)), (1, (0, 0, 0, 1, x1)), (0, (2, 60, 0, 0, 0))] _ _ (xa_subI rfl rfl (fun _ _ _ _ => by omega) (xa_subI rfl rfl (fun _ _ _ _ => by omega) (xa_subI rfl rfl (fun _ _ _ _ => by omega) (xa_subI rfl rfl (fun _ _ _ _ => by omega) (xa_subR rfl (xa_sub0)))))) ?_
            exact loop2 sz (by omega) (fun i g0 g1 g2 => hg i g0 (by omega)) (by omega) 9 0 0 (by omega) rfl (by omega)
          · intro (c3 : 4 < sz)
            show xa_wk post (some (0, 0, (-104), (-104), (-104))) M1
            exact xa_wkI _ rfl (fun _ _ => by omega) (k _ _ (Or.inr ⟨by omega, Or.inr ⟨fun i g0 g1 g2 => hg i g0 (by omega), Or.inr (Or.inl ⟨by omega, by omega⟩)⟩⟩) hc0)
        · intro (c2 : sz = 0)
          show xa_wk post (some (0, 0, (-100), (-100), (-100))) M1
          exact xa_wkI (-100) rfl (fun _ _ => by omega) (k _ _ (Or.inr ⟨by omega, Or.inr ⟨fun i g0 g1 g2 => hg i g0 (by omega), Or.inl ⟨by omega, rfl⟩⟩⟩) hc0)
      · intro (c1 : p < sz)
        refine And.intro ?_ ?_
        · intro (c4 : 4 ≤ p)
          refine And.intro ?_ ?_
          · intro (c5 : ¬ sz = 0)
            refine And.intro ?_ ?_
            · intro (c6 : sz ≤ 4)
              show Q 96 [(4, (0, 0, 0, 0, 0)), (3, (0, 0, 0, 0, 0)), (2, (0, 0, 0, 80, sz)), (1, (0, 0, 0, 1, x1)), (0, (2, 60, 0, 0, 0))] [] M1
              refine hgo.2.1 96 _ [(4, (0, 0, 0, 8, 0)), (3, (0, 0, (-2147483648), 2147483647, 0)), (2, (0, 0, 1, 4, sz)), (1, (0, 0, 0, 1, x1)), (0, (2, 60, 0, 0, 0))] _ _ (xa_subI rfl rfl (fun _ _ _ _ => by omega) (xa_subI rfl rfl (fun _ _ _ _ => by omega) (xa_subI rfl rfl (fun _ _ _ _ => by omega) (xa_subI rfl rfl (fun _ _ _ _ => by omega) (xa_subR rfl (xa_sub0)))))) ?_
              exact loop2 sz (by omega) (fun i g0 g1 g2 => hg i g0 (by omega)) (by omega) 9 0 0 (by omega) rfl (by omega)
            · intro (c6 : 4 < sz)
              show xa_wk post (some (0, 0, (-104), (-104), (-104))) M1
              exact xa_wkI _ rfl (fun _ _ => by omega) (k _ _ (Or.inr ⟨by omega, Or.inr ⟨fun i g0 g1 g2 => hg i g0 (by omega), Or.inr (Or.inl ⟨by omega, by omega⟩)⟩⟩) hc0)
          · intro (c5 : sz = 0)
            show xa_wk post (some (0, 0, (-100), (-100), (-100))) M1
            exact xa_wkI (-100) rfl (fun _ _ => by omega) (k _ _ (Or.inr ⟨by omega, Or.inr ⟨fun i g0 g1 g2 => hg i g0 (by omega), Or.inl ⟨by omega, rfl⟩⟩⟩) hc0)
        · intro (c4 : p < 4)
          refine And.intro ?_ ?_
          · intro (c7 : (M1 73 p) = 63)
            show Q 28 [(3, (0, 0, 1, 5, p + 1)), (2, (0, 0, 0, 80, sz)), (1, (0, 0, 0, 1, x1)), (0, (2, 60, 0, 0, 0))] [] M1
            refine hgo.2.1 28 _ [(3, (0, 0, 0, 4, p + 1)), (2, (0, 0, 0, 80, sz)), (1, (0, 0, 0, 1, x1)), (0, (2, 60, 0, 0, 0))] _ _ (xa_subI rfl rfl (fun _ _ _ _ => by omega) (xa_subI rfl rfl (fun _ _ _ _ => by omega) (xa_subI rfl rfl (fun _ _ _ _ => by omega) (xa_subR rfl (xa_sub0))))) ?_
            exact ih (p + 1) (by omega) (fun i g0 g1 => by
              by_cases e : i = p
              · rw [e]
                have t9 := hT1 p (by omega) (by omega)
                have h9 := xm_t73 hM1 p (by omega) (by omega)
                unfold wd_s
                omega
              · exact hg i g0 (by omega)) (by omega)
          · intro (c7 : ¬ (M1 73 p) = 63)
            show xa_C xm_I A h0 _ 214 [(0, 0, (-128), 127, M1 73 p), (0, 0, 48, 48, 48), (0, 0, 57, 57, 57)] M1 _
            refine ct_in ?_ ?_
            · intro (i8 : 48 ≤ (M1 73 p) ∧ (M1 73 p) ≤ 57)
              show Q 28 [(3, (0, 0, 1, 5, p + 1)), (2, (0, 0, 0, 80, sz)), (1, (0, 0, 0, 1, x1)), (0, (2, 60, 0, 0, 0))] [] M1
              refine hgo.2.1 28 _ [(3, (0, 0, 0, 4, p + 1)), (2, (0, 0, 0, 80, sz)), (1, (0, 0, 0, 1, x1)), (0, (2, 60, 0, 0, 0))] _ _ (xa_subI rfl rfl (fun _ _ _ _ => by omega) (xa_subI rfl rfl (fun _ _ _ _ => by omega) (xa_subI rfl rfl (fun _ _ _ _ => by omega) (xa_subR rfl (xa_sub0))))) ?_
              exact ih (p + 1) (by omega) (fun i g0 g1 => by
                by_cases e : i = p
                · rw [e]
                  have t9 := hT1 p (by omega) (by omega)
                  have h9 := xm_t73 hM1 p (by omega) (by omega)
                  unfold wd_s
                  omega
                · exact hg i g0 (by omega)) (by omega)
            · intro (i9 : ¬ (48 ≤ (M1 73 p) ∧ (M1 73 p) ≤ 57))
              show xa_wk post (some (0, 0, (-104), (-100), (-100) - p)) M1
              have t9 := hT1 p (by omega) (by omega)
              have h9 := xm_t73 hM1 p (by omega) (by omega)
              exact xa_wkI _ rfl (fun _ _ => by omega) (k _ _ (Or.inr ⟨by omega, Or.inl ⟨p, by omega, by omega, by omega, by unfold wd_s; omega, hg, by omega⟩⟩) hc0)
  refine hgo.1 21 [28] 0 _ _ _ ?_
  show xa_C xm_I A h0 _ 214 [(0, 0, (-2147483648), 2147483647, x1), (0, 0, 0, 0, 0), (0, 0, 1, 1, 1)] (xa_up (xa_up M 60 21 0) 60 18 0) _
  refine ct_in ?_ ?_
  · intro (i1 : 0 ≤ x1 ∧ x1 ≤ 1)
    show Q 28 [(3, (0, 0, 0, 0, 0)), (2, (0, 0, 0, 80, M 60 18)), (0, (2, 60, 0, 0, 0)), (1, (0, 0, (-2147483648), 2147483647, x1))] [] (xa_up (xa_up M 60 21 0) 60 18 0)
    refine hgo.2.1 28 _ [(3, (0, 0, 0, 4, 0)), (2, (0, 0, 0, 80, M 60 18)), (1, (0, 0, 0, 1, x1)), (0, (2, 60, 0, 0, 0))] _ _ (xa_subI rfl rfl (fun _ _ _ _ => by omega) (xa_subI rfl rfl (fun _ _ _ _ => by omega) (xa_subI rfl rfl (fun _ _ _ _ => by omega) (xa_subR rfl (xa_sub0))))) ?_
    exact loop1 (by omega) (M 60 18) rfl (xa_up (xa_up M 60 21 0) 60 18 0) xm_cor_r 5 0 (by omega) (fun i g0 g1 => by omega) (by omega)
  · intro (i2 : ¬ (0 ≤ x1 ∧ x1 ≤ 1))
    show xa_wk post (some (0, 0, (-1), (-1), (-1))) (xa_up (xa_up M 60 21 0) 60 18 0)
    exact xa_wkI (-1) rfl (fun _ _ => by omega) (k _ _ (Or.inl ⟨by omega, rfl⟩) xm_cor_r)
theorem ms_namesE {A : Nat → Nat} {h0 : g_H} {d : Nat} {M : xa_M} {post : Option xa_V → xa_M → Prop} (k : ∀ (lo hi r : Int) (M1 : xa_M), xm_cor (xa_up (xa_up M 60 21 0) 60 18 0) M1 → post (some (0, 0, lo, hi, r)) M1) : xa_C xm_I A h0 (d + 11) 281 [(2, 60, 0, 0, 0)] M post := by
  refine xa_meth (Q0 := (3, 1, false, 0, 0, 12)) (by decide +kernel) ⟨rfl, rfl⟩ (full := s_c_281) rfl rfl ?_
  intro hM hv Q hgo
  have b18 := xm_f18 hM
  obtain ⟨x1, hx1⟩ : ∃ x1, x1 = M 60 18 := ⟨_, rfl⟩
  have loop0 : ∀ (n : Nat) (x2 : Int) (M1 : xa_M), 0 ≤ x2 ∧ x2 ≤ 8 → xm_cor (xa_up (xa_up M 60 21 0) 60 18 0) M1 → 8 - x2 < (n : Int) → Q 17 [(2, (0, 0, 0, 8, x2)), (1, (0, 0, 0, 80, x1)), (0, (2, 60, 0, 0, 0))] [] M1 := by
    intro n
    induction n with
    | zero => intro x2 M1 b2 hc hms; omega
    | succ n ih0 =>
      intro x2 M1 b2 hc hms0
      refine hgo.1 28 [17] 17 _ _ _ ?_
      refine And.intro ?_ ?_
      · intro (c1 : x1 ≤ x2)
        refine And.intro ?_ ?_
        · intro (c2 : ¬ x1 = 0)
          refine And.intro ?_ ?_
          · intro (c3 : x1 ≤ 8)
            show xa_C xm_I A h0 _ 282 [(2, 60, 0, 0, 0), (0, 0, 0, 0, 0), (0, 0, 0, 80, x1), (0, 0, 0, 0, 0)] (xa_up M1 60 53 0) _
            refine ct_namesFrom8 (by omega) (by omega) (by omega) (fun M4 hc4 => ?_)
            show post (some (0, 0, (-2147483648), 2147483647, M4 60 53)) M4
            exact k _ _ _ _ (xm_cor_t (xm_cor_u (by unfold xm_scr; omega) hc) hc4)
          · intro (c3 : 8 < x1)
            show post (some (0, 0, (-108), (-108), (-108))) M1
            exact k _ _ _ _ hc
        · intro (c2 : x1 = 0)
          show post (some (0, 0, (-100), (-100), (-100))) M1
          exact k _ _ _ _ hc
      · intro (c1 : x2 < x1)
        refine And.intro ?_ ?_
        · intro (c5 : 8 ≤ x2)
          refine And.intro ?_ ?_
          · intro (c6 : ¬ x1 = 0)
            refine And.intro ?_ ?_
            · intro (c7 : x1 ≤ 8)
              show xa_C xm_I A h0 _ 282 [(2, 60, 0, 0, 0), (0, 0, 0, 0, 0), (0, 0, 0, 80, x1), (0, 0, 0, 0, 0)] (xa_up M1 60 53 0) _
              refine ct_namesFrom8 (by omega) (by omega) (by omega) (fun M8 hc8 => ?_)
              show post (some (0, 0, (-2147483648), 2147483647, M8 60 53)) M8
              exact k _ _ _ _ (xm_cor_t (xm_cor_u (by unfold xm_scr; omega) hc) hc8)
            · intro (c7 : 8 < x1)
              show post (some (0, 0, (-108), (-108), (-108))) M1
              exact k _ _ _ _ hc
          · intro (c6 : x1 = 0)
            show post (some (0, 0, (-100), (-100), (-100))) M1
            exact k _ _ _ _ hc
        · intro (c5 : x2 < 8)
          refine And.intro ?_ ?_
          · intro (c9 : (M1 73 x2) = 63)
            show Q 17 [(2, (0, 0, 1, 9, x2 + 1)), (1, (0, 0, 0, 80, x1)), (0, (2, 60, 0, 0, 0))] [] M1
            refine hgo.2.1 17 _ [(2, (0, 0, 0, 8, x2 + 1)), (1, (0, 0, 0, 80, x1)), (0, (2, 60, 0, 0, 0))] _ _ (xa_subI rfl rfl (fun _ _ _ _ => by omega) (xa_subI rfl rfl (fun _ _ _ _ => by omega) (xa_subR rfl xa_sub0))) ?_
            exact ih0 (x2 + 1) M1 (by omega) hc (by omega)
          · intro (c9 : ¬ (M1 73 x2) = 63)
            show xa_C xm_I A h0 _ 214 [(0, 0, (-128), 127, M1 73 x2), (0, 0, 97, 97, 97), (0, 0, 122, 122, 122)] M1 _
            refine ct_in ?_ ?_
            · intro (i10 : 97 ≤ (M1 73 x2) ∧ (M1 73 x2) ≤ 122)
              show Q 17 [(2, (0, 0, 1, 9, x2 + 1)), (1, (0, 0, 0, 80, x1)), (0, (2, 60, 0, 0, 0))] [] M1
              refine hgo.2.1 17 _ [(2, (0, 0, 0, 8, x2 + 1)), (1, (0, 0, 0, 80, x1)), (0, (2, 60, 0, 0, 0))] _ _ (xa_subI rfl rfl (fun _ _ _ _ => by omega) (xa_subI rfl rfl (fun _ _ _ _ => by omega) (xa_subR rfl xa_sub0))) ?_
              exact ih0 (x2 + 1) M1 (by omega) hc (by omega)
            · intro (i10 : ¬ (97 ≤ (M1 73 x2) ∧ (M1 73 x2) ≤ 122))
              show post (some (0, 0, (-108), (-100), (-100) - x2)) M1
              exact k _ _ _ _ hc
  refine hgo.1 16 [17] 0 _ _ _ ?_
  show Q 17 [(2, (0, 0, 0, 0, 0)), (1, (0, 0, 0, 80, M 60 18)), (0, (2, 60, 0, 0, 0))] [] (xa_up (xa_up M 60 21 0) 60 18 0)
  rw [← hx1]
  refine hgo.2.1 17 _ [(2, (0, 0, 0, 8, 0)), (1, (0, 0, 0, 80, x1)), (0, (2, 60, 0, 0, 0))] _ _ (xa_subI rfl rfl (fun _ _ _ _ => by omega) (xa_subI rfl rfl (fun _ _ _ _ => by omega) (xa_subR rfl xa_sub0))) ?_
  exact loop0 9 0 (xa_up (xa_up M 60 21 0) 60 18 0) (by omega) xm_cor_r (by omega)

