-- words
set_option maxRecDepth 20000
theorem le_cut {M M1 : xa_M} {n : Int} (h : 0 ≤ M 30 1) (hE : lt_E M 30 1 (M 30 1) 0 n M1) : M1 30 1 = 0 ∧ ∀ q j, ¬ (q = 30 ∧ j = 1) → ¬ (q = 60 ∧ j = 21) → M1 q j = M q j := by
  rcases hE with ⟨-, -, e3, e4⟩ | ⟨e1, -⟩
  · exact ⟨e3, e4⟩
  · exact absurd ⟨Int.le_refl 0, h⟩ e1
theorem cx_173f {b : Bool} {A : Nat → Nat} {h0 : g_H} {d : Nat} {M : xa_M} {post : Option xa_V → xa_M → Prop} {T : Int → Int} {l1 u1 n : Int} (hT : (∀ i, 0 ≤ i → i < 80 → M 31 i = T i)) (hB : ∀ i, 0 ≤ T i ∧ T i ≤ 255) (hz : 0 ≤ M 30 1 ∧ M 30 1 ≤ 80) (hn : 0 ≤ n ∧ n ≤ 2000) (k1 : wd_m T (M 30 1).toNat n → post (some (0, 0, 1, 1, 1)) M) (k2 : ¬ wd_m T (M 30 1).toNat n → post (some (0, 0, 0, 0, 0)) M) : xa_C (xl_I b) A h0 (d + 4) 173 [(2, 30, 0, 0, 0), (0, 0, l1, u1, n)] M post := by
  refine xa_C_arg [(2, 30, 0, 0, 0), (0, 0, 0, 2000, n)] (xa_svR (xa_svI (fun _ _ _ _ => by omega) xa_sv0)) ?_
  refine xa_meth (Q0 := (4, 2, false, 0, 0, 0)) (by decide +kernel) ⟨rfl, rfl⟩ (full := s_c_173) rfl rfl ?_
  intro hM hv Q hgo
  have loop : ∀ (f : Nat) (i r : Int), -1 ≤ i ∧ i < M 30 1 → 0 ≤ r ∧ r ≤ 2000 → (wd_m T (i + 1).toNat r ↔ wd_m T (M 30 1).toNat n) → i + 1 < (f : Int) → Q 9 [(3, (0, 0, (-1), 79, i)), (2, (0, 0, 0, 2000, r)), (1, (0, 0, 0, 2000, n)), (0, (2, 30, 0, 0, 0))] [] M := by
    intro f
    induction f with
    | zero => intro i r i1 r1 hb hms; omega
    | succ f ih =>
      intro i r i1 r1 hb hms
      have w9 : 0 ≤ i → xa_w32 ((M 31 i) - 48) = (M 31 i) - 48 := fun h => by
        have t9 := hT i h (by omega)
        have h9 := hB i
        exact xa_w32_id (by omega) (by omega)
      refine hgo.1 28 [9] 9 _ _ _ ?_
      refine And.intro ?_ ?_
      · intro (c1 : i < 0)
        refine And.intro ?_ ?_
        · intro (c2 : ¬ r = 0)
          show post (some (0, 0, 0, 0, 0)) M
          exact k2 (fun h => absurd ((wd_end (by omega) hb).mpr h) (by omega))
        · intro (c2 : r = 0)
          show post (some (0, 0, 1, 1, 1)) M
          exact k1 ((wd_end (by omega) hb).mp (by omega))
      · intro (c1 : 0 ≤ i)
        have i0 := c1
        have w8 := w9 i0
        refine And.intro ?_ ?_
        · intro (c3 : r = 0)
          show post (some (0, 0, 0, 0, 0)) M
          exact k2 (wd_no1 (by omega) (by omega) hb)
        · intro (c3 : ¬ r = 0)
          show xa_C (xl_I b) A h0 _ 172 [(2, 30, 0, 0, 0), (0, 0, (-1), 79, i)] M _
          refine cg_172 (show 0 ≤ (M 30 1) ∧ (M 30 1) ≤ 80 by omega) ?_ ?_
          · intro (i4 : (0 ≤ i ∧ i < (M 30 1)) ∧ M 31 i = 63)
            show Q 9 [(3, (0, 0, (-2), 78, i + (-1))), (2, (0, 0, 0, 2000, r / 10)), (1, (0, 0, 0, 2000, n)), (0, (2, 30, 0, 0, 0))] [] M
            have t9 := hT i i0 (by omega)
            have h9 := hB i
            have q9 : T i = 63 ∨ T i - 48 = r % 10 := by omega
            refine hgo.2.1 9 _ [(3, (0, 0, (-1), 79, i + (-1))), (2, (0, 0, 0, 2000, r / 10)), (1, (0, 0, 0, 2000, n)), (0, (2, 30, 0, 0, 0))] _ _ (xa_subI rfl rfl (fun _ _ _ _ => by omega) (xa_subI rfl rfl (fun _ _ _ _ => by omega) (xa_subI rfl rfl (fun _ _ _ _ => by omega) (xa_subR rfl (xa_sub0))))) ?_
            exact ih (i + (-1)) (r / 10) (by omega) (by omega) (wd_st i0 (by omega) q9 hb) (by omega)
          · intro (i5 : ¬ ((0 ≤ i ∧ i < (M 30 1)) ∧ M 31 i = 63))
            show xa_C (xl_I b) A h0 _ 119 [(2, 30, 0, 0, 0), (0, 0, (-1), 79, i)] M _
            refine cg_119 (show 0 ≤ (M 30 1) ∧ (M 30 1) ≤ 80 by omega) ?_ ?_
            · intro (i6 : 0 ≤ i ∧ i < (M 30 1))
              refine And.intro ?_ ?_
              · intro (c7 : (xa_w32 ((M 31 i) - 48)) = (r % 10))
                show Q 9 [(3, (0, 0, (-2), 78, i + (-1))), (2, (0, 0, 0, 2000, r / 10)), (1, (0, 0, 0, 2000, n)), (0, (2, 30, 0, 0, 0))] [] M
                have t9 := hT i i0 (by omega)
                have h9 := hB i
                have q9 : T i = 63 ∨ T i - 48 = r % 10 := by omega
                refine hgo.2.1 9 _ [(3, (0, 0, (-1), 79, i + (-1))), (2, (0, 0, 0, 2000, r / 10)), (1, (0, 0, 0, 2000, n)), (0, (2, 30, 0, 0, 0))] _ _ (xa_subI rfl rfl (fun _ _ _ _ => by omega) (xa_subI rfl rfl (fun _ _ _ _ => by omega) (xa_subI rfl rfl (fun _ _ _ _ => by omega) (xa_subR rfl (xa_sub0))))) ?_
                exact ih (i + (-1)) (r / 10) (by omega) (by omega) (wd_st i0 (by omega) q9 hb) (by omega)
              · intro (c7 : ¬ (xa_w32 ((M 31 i) - 48)) = (r % 10))
                show post (some (0, 0, 0, 0, 0)) M
                have t9 := hT i (by omega) (by omega)
                have h9 := hB i
                exact k2 (wd_no2 (by omega) (by omega) hb)
            · intro (i8 : ¬ (0 ≤ i ∧ i < (M 30 1)))
              show post (some (0, 0, 0, 0, 0)) M
              have t9 := hT i (by omega) (by omega)
              have h9 := hB i
              exact k2 (wd_no2 (by omega) (by omega) hb)
  refine hgo.1 12 [9] 0 _ _ _ ?_
  show Q 9 [(3, (0, 0, (-2147483648), 2147483647, xa_w32 ((M 30 1) - 1))), (2, (0, 0, 0, 2000, n)), (0, (2, 30, 0, 0, 0)), (1, (0, 0, 0, 2000, n))] [] M
  have w1 : xa_w32 ((M 30 1) - 1) = (M 30 1) - 1 := xa_w32_id (by omega) (by omega)
  rw [w1]
  refine hgo.2.1 9 _ [(3, (0, 0, (-1), 79, (M 30 1) - 1)), (2, (0, 0, 0, 2000, n)), (1, (0, 0, 0, 2000, n)), (0, (2, 30, 0, 0, 0))] _ _ (xa_subI rfl rfl (fun _ _ _ _ => by omega) (xa_subI rfl rfl (fun _ _ _ _ => by omega) (xa_subI rfl rfl (fun _ _ _ _ => by omega) (xa_subR rfl (xa_sub0))))) ?_
  exact loop 81 ((M 30 1) - 1) n (by omega) (by omega) (by rw [show (M 30 1) - 1 + 1 = M 30 1 by omega]) (by omega)
theorem cx_23_51 {b : Bool} {A : Nat → Nat} {h0 : g_H} {d : Nat} {M : xa_M} {post : Option xa_V → xa_M → Prop} {l1 u1 : Int} {i : Int} (h1 : 0 ≤ i ∧ i < 8) (k1 : post (some (0, 0, (-2147483648), 2147483647, M 51 i)) M) : xa_C (xl_I b) A h0 (d + 1) 23 [(2, 51, 0, 0, 0), (0, 0, l1, u1, i)] M post := by
  refine xa_C_arg [(2, 51, 0, 0, 0), (0, 0, (-2147483648), 2147483647, i)] (xa_svR (xa_svI (fun _ _ _ _ => by omega) xa_sv0)) ?_
  refine xa_meth (Q0 := (2, 1, false, 0, 0, 11)) (by decide +kernel) ⟨rfl, rfl⟩ (full := s_c_23) rfl rfl ?_
  intro hM hv Q hgo
  refine hgo.1 15 [] 0 _ _ _ ?_
  refine And.intro ?_ ?_
  · intro (c1 : i < 0)
    show post (some (0, 0, 0, 0, 0)) M
    exact absurd h1 (by omega)
  · intro (c1 : 0 ≤ i)
    refine And.intro ?_ ?_
    · intro (c2 : 8 ≤ i)
      show post (some (0, 0, 0, 0, 0)) M
      exact absurd h1 (by omega)
    · intro (c2 : i < 8)
      refine And.intro (show 0 ≤ i ∧ i < 8 by omega) ?_
      show post (some (0, 0, (-2147483648), 2147483647, M 51 i)) M
      exact k1
theorem cx_23_52 {b : Bool} {A : Nat → Nat} {h0 : g_H} {d : Nat} {M : xa_M} {post : Option xa_V → xa_M → Prop} {l1 u1 : Int} {i : Int} (h1 : 0 ≤ i ∧ i < 8) (k1 : post (some (0, 0, (-2147483648), 2147483647, M 52 i)) M) : xa_C (xl_I b) A h0 (d + 1) 23 [(2, 52, 0, 0, 0), (0, 0, l1, u1, i)] M post := by
  refine xa_C_arg [(2, 52, 0, 0, 0), (0, 0, (-2147483648), 2147483647, i)] (xa_svR (xa_svI (fun _ _ _ _ => by omega) xa_sv0)) ?_
  refine xa_meth (Q0 := (2, 1, false, 0, 0, 11)) (by decide +kernel) ⟨rfl, rfl⟩ (full := s_c_23) rfl rfl ?_
  intro hM hv Q hgo
  refine hgo.1 15 [] 0 _ _ _ ?_
  refine And.intro ?_ ?_
  · intro (c1 : i < 0)
    show post (some (0, 0, 0, 0, 0)) M
    exact absurd h1 (by omega)
  · intro (c1 : 0 ≤ i)
    refine And.intro ?_ ?_
    · intro (c2 : 8 ≤ i)
      show post (some (0, 0, 0, 0, 0)) M
      exact absurd h1 (by omega)
    · intro (c2 : i < 8)
      refine And.intro (show 0 ≤ i ∧ i < 8 by omega) ?_
      show post (some (0, 0, (-2147483648), 2147483647, M 52 i)) M
      exact k1
theorem cx_59_48 {b : Bool} {A : Nat → Nat} {h0 : g_H} {d : Nat} {M : xa_M} {post : Option xa_V → xa_M → Prop} (k1 : post none (xa_up M 48 1 0)) : xa_C (xl_I b) A h0 (d + 1) 59 [(2, 48, 0, 0, 0)] M post := by
  refine xa_C_arg [(2, 48, 0, 0, 0)] (xa_svR (xa_sv0)) ?_
  refine xa_meth (Q0 := (1, 0, false, 0, 0, 6)) (by decide +kernel) ⟨rfl, rfl⟩ (full := s_c_59) rfl rfl ?_
  intro hM hv Q hgo
  refine hgo.1 8 [] 0 _ _ _ ?_
  show post none (xa_up M 48 1 0)
  exact k1
theorem cx_48_49 {b : Bool} {A : Nat → Nat} {h0 : g_H} {d : Nat} {M : xa_M} {post : Option xa_V → xa_M → Prop} {l1 u1 l2 u2 : Int} {i v : Int} (h1 : 0 ≤ i ∧ i < 16) (k1 : post none (xa_up M 49 i v)) : xa_C (xl_I b) A h0 (d + 1) 48 [(2, 49, 0, 0, 0), (0, 0, l1, u1, i), (1, 0, l2, u2, v)] M post := by
  refine xa_C_arg [(2, 49, 0, 0, 0), (0, 0, (-2147483648), 2147483647, i), (1, 0, (-9223372036854775808), 9223372036854775807, v)] (xa_svR (xa_svI (fun _ _ _ _ => by omega) (xa_svL (fun _ _ _ _ => by omega) xa_sv0))) ?_
  refine xa_meth (Q0 := (4, 0, false, 0, 0, 11)) (by decide +kernel) ⟨rfl, rfl⟩ (full := s_c_48) rfl rfl ?_
  intro hM hv Q hgo
  refine hgo.1 15 [] 0 _ _ _ ?_
  refine And.intro ?_ ?_
  · intro (c1 : i < 0)
    show post none M
    exact absurd h1 (by omega)
  · intro (c1 : 0 ≤ i)
    refine And.intro ?_ ?_
    · intro (c2 : 16 ≤ i)
      show post none M
      exact absurd h1 (by omega)
    · intro (c2 : i < 16)
      refine And.intro (show 0 ≤ i ∧ i < 16 by omega) ?_
      show post none (xa_up M 49 i v)
      exact k1
theorem cx_60_48 {b : Bool} {A : Nat → Nat} {h0 : g_H} {d : Nat} {M : xa_M} {post : Option xa_V → xa_M → Prop} {l1 u1 : Int} {x1 : Int} (h1 : (0 : Int) ≤ (M 48 1)) (k1 : (16 ≤ (M 48 1)) → post none M) (k2 : ((M 48 1) < 16) → post none (xa_up (xa_up M 49 (M 48 1) x1) 48 1 (xa_w32 ((M 48 1) + 1)))) : xa_C (xl_I b) A h0 (d + 2) 60 [(2, 48, 0, 0, 0), (1, 0, l1, u1, x1)] M post := by
  refine xa_C_arg [(2, 48, 0, 0, 0), (1, 0, (-9223372036854775808), 9223372036854775807, x1)] (xa_svR (xa_svL (fun _ _ _ _ => by omega) (xa_sv0))) ?_
  refine xa_meth (Q0 := (3, 0, false, 0, 0, 6)) (by decide +kernel) ⟨rfl, rfl⟩ (full := s_c_60) rfl rfl ?_
  intro hM hv Q hgo
  refine hgo.1 21 [] 0 _ _ _ ?_
  refine And.intro ?_ ?_
  · intro (c1 : 16 ≤ (M 48 1))
    show post none M
    exact k1 c1
  · intro (c1 : (M 48 1) < 16)
    show xa_C (xl_I b) A h0 _ 48 [(2, 49, 0, 0, 0), (0, 0, (-2147483648), 2147483647, M 48 1), (1, 0, (-9223372036854775808), 9223372036854775807, x1)] M _
    refine cx_48_49 (show 0 ≤ (M 48 1) ∧ (M 48 1) < 16 by omega) ?_
    show post none (xa_up (xa_up M 49 (M 48 1) x1) 48 1 (xa_w32 ((M 48 1) + 1)))
    exact k2 c1
theorem cx_23_56 {b : Bool} {A : Nat → Nat} {h0 : g_H} {d : Nat} {M : xa_M} {post : Option xa_V → xa_M → Prop} {l1 u1 : Int} {i : Int} (h1 : 0 ≤ i ∧ i < 8) (k1 : post (some (0, 0, (-2147483648), 2147483647, M 56 i)) M) : xa_C (xl_I b) A h0 (d + 1) 23 [(2, 56, 0, 0, 0), (0, 0, l1, u1, i)] M post := by
  refine xa_C_arg [(2, 56, 0, 0, 0), (0, 0, (-2147483648), 2147483647, i)] (xa_svR (xa_svI (fun _ _ _ _ => by omega) xa_sv0)) ?_
  refine xa_meth (Q0 := (2, 1, false, 0, 0, 11)) (by decide +kernel) ⟨rfl, rfl⟩ (full := s_c_23) rfl rfl ?_
  intro hM hv Q hgo
  refine hgo.1 15 [] 0 _ _ _ ?_
  refine And.intro ?_ ?_
  · intro (c1 : i < 0)
    show post (some (0, 0, 0, 0, 0)) M
    exact absurd h1 (by omega)
  · intro (c1 : 0 ≤ i)
    refine And.intro ?_ ?_
    · intro (c2 : 8 ≤ i)
      show post (some (0, 0, 0, 0, 0)) M
      exact absurd h1 (by omega)
    · intro (c2 : i < 8)
      refine And.intro (show 0 ≤ i ∧ i < 8 by omega) ?_
      show post (some (0, 0, (-2147483648), 2147483647, M 56 i)) M
      exact k1
theorem cx_23_57 {b : Bool} {A : Nat → Nat} {h0 : g_H} {d : Nat} {M : xa_M} {post : Option xa_V → xa_M → Prop} {l1 u1 : Int} {i : Int} (h1 : 0 ≤ i ∧ i < 8) (k1 : post (some (0, 0, (-2147483648), 2147483647, M 57 i)) M) : xa_C (xl_I b) A h0 (d + 1) 23 [(2, 57, 0, 0, 0), (0, 0, l1, u1, i)] M post := by
  refine xa_C_arg [(2, 57, 0, 0, 0), (0, 0, (-2147483648), 2147483647, i)] (xa_svR (xa_svI (fun _ _ _ _ => by omega) xa_sv0)) ?_
  refine xa_meth (Q0 := (2, 1, false, 0, 0, 11)) (by decide +kernel) ⟨rfl, rfl⟩ (full := s_c_23) rfl rfl ?_
  intro hM hv Q hgo
  refine hgo.1 15 [] 0 _ _ _ ?_
  refine And.intro ?_ ?_
  · intro (c1 : i < 0)
    show post (some (0, 0, 0, 0, 0)) M
    exact absurd h1 (by omega)
  · intro (c1 : 0 ≤ i)
    refine And.intro ?_ ?_
    · intro (c2 : 8 ≤ i)
      show post (some (0, 0, 0, 0, 0)) M
      exact absurd h1 (by omega)
    · intro (c2 : i < 8)
      refine And.intro (show 0 ≤ i ∧ i < 8 by omega) ?_
      show post (some (0, 0, (-2147483648), 2147483647, M 57 i)) M
      exact k1
theorem ct_isWordF {A : Nat → Nat} {h0 : g_H} {d : Nat} {M : xa_M} {post : Option xa_V → xa_M → Prop} {T : Int → Int} {l1 u1 l2 u2 a b : Int} (hT : ∀ i, 0 ≤ i → i < 80 → T i = M 73 i % 256) (ha : 0 ≤ a ∧ a ≤ 2000) (hb1 : 1 ≤ b ∧ b ≤ 4) (k1 : wd_m T b.toNat a → post (some (0, 0, 1, 1, 1)) M) (k2 : ¬ wd_m T b.toNat a → post (some (0, 0, 0, 0, 0)) M) : xa_C xm_I A h0 (d + 1) 280 [(2, 60, 0, 0, 0), (0, 0, l1, u1, a), (0, 0, l2, u2, b)] M post := by
  refine xa_C_arg [(2, 60, 0, 0, 0), (0, 0, 0, 2000, a), (0, 0, 1, 4, b)] (xa_svR (xa_svI (fun _ _ _ _ => by omega) (xa_svI (fun _ _ _ _ => by omega) xa_sv0))) ?_
  refine xa_meth (Q0 := (5, 2, false, 0, 0, 12)) (by decide +kernel) ⟨rfl, rfl⟩ (full := s_c_280) rfl rfl ?_
  intro hM hv Q hgo
  have loop : ∀ (f : Nat) (i r : Int), -1 ≤ i ∧ i ≤ 3 → 0 ≤ r ∧ r ≤ 2000 → (wd_m T (i + 1).toNat r ↔ wd_m T b.toNat a) → i + 1 < (f : Int) → Q 7 [(4, (0, 0, (-1), 3, i)), (3, (0, 0, 0, 2000, r)), (2, (0, 0, 1, 4, b)), (0, (2, 60, 0, 0, 0))] [] M := by
    intro f
    induction f with
    | zero => intro i r i1 r1 hb hms; omega
    | succ f ih =>
      intro i r i1 r1 hb hms
      refine hgo.1 31 [7] 7 _ _ _ ?_
      refine And.intro ?_ ?_
      · intro (c1 : i < 0)
        refine And.intro ?_ ?_
        · intro (c2 : ¬ r = 0)
          show post (some (0, 0, 0, 0, 0)) M
          exact k2 (fun h => absurd ((wd_end (by omega) hb).mpr h) (by omega))
        · intro (c2 : r = 0)
          show post (some (0, 0, 1, 1, 1)) M
          exact k1 ((wd_end (by omega) hb).mp (by omega))
      · intro (c1 : 0 ≤ i)
        refine And.intro ?_ ?_
        · intro (c3 : r = 0)
          show post (some (0, 0, 0, 0, 0)) M
          exact k2 (wd_no1 (by omega) (by omega) hb)
        · intro (c3 : ¬ r = 0)
          refine And.intro (show 0 ≤ i ∧ i < 80 by omega) ?_
          refine And.intro ?_ ?_
          · intro (c4 : (M 73 i) = 63)
            show Q 7 [(4, (0, 0, (-2), 2, i + (-1))), (3, (0, 0, 0, 2000, r / 10)), (2, (0, 0, 1, 4, b)), (0, (2, 60, 0, 0, 0))] [] M
            have t9 := hT i (by omega) (by omega)
            have h9 := xm_t73 hM i (by omega) (by omega)
            have q9 : T i = 63 ∨ T i - 48 = r % 10 := by omega
            refine hgo.2.1 7 _ [(4, (0, 0, (-1), 3, i + (-1))), (3, (0, 0, 0, 2000, r / 10)), (2, (0, 0, 1, 4, b)), (0, (2, 60, 0, 0, 0))] _ _ (xa_subI rfl rfl (fun _ _ _ _ => by omega) (xa_subI rfl rfl (fun _ _ _ _ => by omega) (xa_subI rfl rfl (fun _ _ _ _ => by omega) (xa_subR rfl (xa_sub0))))) ?_
            exact ih (i + (-1)) (r / 10) (by omega) (by omega) (wd_st (by omega) (by omega) q9 hb) (by omega)
          · intro (c4 : ¬ (M 73 i) = 63)
            refine And.intro (show 0 ≤ i ∧ i < 80 by omega) ?_
            refine And.intro ?_ ?_
            · intro (c5 : ((M 73 i) - 48) = (r % 10))
              show Q 7 [(4, (0, 0, (-2), 2, i + (-1))), (3, (0, 0, 0, 2000, r / 10)), (2, (0, 0, 1, 4, b)), (0, (2, 60, 0, 0, 0))] [] M
              have t9 := hT i (by omega) (by omega)
              have h9 := xm_t73 hM i (by omega) (by omega)
              have q9 : T i = 63 ∨ T i - 48 = r % 10 := by omega
              refine hgo.2.1 7 _ [(4, (0, 0, (-1), 3, i + (-1))), (3, (0, 0, 0, 2000, r / 10)), (2, (0, 0, 1, 4, b)), (0, (2, 60, 0, 0, 0))] _ _ (xa_subI rfl rfl (fun _ _ _ _ => by omega) (xa_subI rfl rfl (fun _ _ _ _ => by omega) (xa_subI rfl rfl (fun _ _ _ _ => by omega) (xa_subR rfl (xa_sub0))))) ?_
              exact ih (i + (-1)) (r / 10) (by omega) (by omega) (wd_st (by omega) (by omega) q9 hb) (by omega)
            · intro (c5 : ¬ ((M 73 i) - 48) = (r % 10))
              show post (some (0, 0, 0, 0, 0)) M
              have t9 := hT i (by omega) (by omega)
              have h9 := xm_t73 hM i (by omega) (by omega)
              exact k2 (wd_no2 (by omega) (by omega) hb)
  refine hgo.1 11 [7] 0 _ _ _ ?_
  show Q 7 [(4, (0, 0, 0, 3, b - 1)), (3, (0, 0, 0, 2000, a)), (0, (2, 60, 0, 0, 0)), (1, (0, 0, 0, 2000, a)), (2, (0, 0, 1, 4, b))] [] M
  refine hgo.2.1 7 _ [(4, (0, 0, (-1), 3, b - 1)), (3, (0, 0, 0, 2000, a)), (2, (0, 0, 1, 4, b)), (0, (2, 60, 0, 0, 0))] _ _ (xa_subI rfl rfl (fun _ _ _ _ => by omega) (xa_subI rfl rfl (fun _ _ _ _ => by omega) (xa_subI rfl rfl (fun _ _ _ _ => by omega) (xa_subR rfl (xa_sub0))))) ?_
  exact loop 5 (b - 1) a (by omega) (by omega) (by rw [show b - 1 + 1 = b by omega]) (by omega)
