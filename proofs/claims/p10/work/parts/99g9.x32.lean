-- turns: what both sides answer
set_option maxRecDepth 20000
theorem cx_60a {b : Bool} {A : Nat → Nat} {h0 : g_H} {d : Nat} {M : xa_M} {post : Option xa_V → xa_M → Prop} {l1 u1 x1 : Int} (h1 : (0 : Int) ≤ M 48 1) (k : ∀ M1 : xa_M, (∀ (q : Nat) (j : Int), ¬ (q = 48 ∨ q = 49) → M1 q j = M q j) → (0 : Int) ≤ M1 48 1 → post none M1) : xa_C (xl_I b) A h0 (d + 2) 60 [(2, 48, 0, 0, 0), (1, 0, l1, u1, x1)] M post :=
  cx_60_48 h1 (fun _ => k M (fun _ _ _ => rfl) h1) (fun h => k _ (fun q j hq => (xa_up_ne (by omega)).trans (xa_up_ne (by omega))) (by
    rw [xa_up_eq, xa_w32_id (by omega) (by omega)]
    omega))
/-- bits of those that are so -/
theorem tw_b1 {P : Int → Prop} {a x : Int} (a0 : 0 ≤ a) (hP : P a) (hx : x = wd_b P a.toNat) : xa_ib 4 x (xa_ib 6 1 a) = wd_b P (a + 1).toNat := by
  have e : ((a.toNat : Nat) : Int) = a := Int.toNat_of_nonneg a0
  rw [show (a + 1).toNat = a.toNat + 1 by omega, wd_b1 (by rw [e]; exact hP), e, hx]
theorem tw_b0 {P : Int → Prop} {a x : Int} (a0 : 0 ≤ a) (hP : ¬ P a) (hx : x = wd_b P a.toNat) : x = wd_b P (a + 1).toNat := by
  have e : ((a.toNat : Nat) : Int) = a := Int.toNat_of_nonneg a0
  rw [show (a + 1).toNat = a.toNat + 1 by omega, wd_b0 (by rw [e]; exact hP), hx]
theorem tw_bz {P : Int → Prop} {a x : Int} (a0 : 0 ≤ a) (hP : ¬ P a) (hx : x = wd_b P a.toNat) : xa_ib 4 x 0 = wd_b P (a + 1).toNat := by
  have r := wd_b_r (P := P) a.toNat
  rw [bk_or0 (by omega) (by omega)]
  exact tw_b0 a0 hP hx
/-- what turning answers -/
def tw_61 (N0 : xa_M) (v : Int) : Prop := ∃ (w : Int) (N : xa_M), tw_F N0 (-1) w N ∧ ((¬ w = 0 ∧ v = w) ∨ (w = 0 ∧ v = wd_b (fun a => ¬ N 77 a = 0) 10))
theorem tw_61_one {N0 : xa_M} {v v' : Int} (hr : xm_rng N0) (h : tw_61 N0 v) (h' : tw_61 N0 v') : v = v' := by
  obtain ⟨w, N, hF, h2⟩ := h
  obtain ⟨w', N', hF', h3⟩ := h'
  obtain ⟨rfl, hag⟩ := tw_F_det hr hF hF'
  rcases h2 with ⟨e1, e2⟩ | ⟨rfl, e2⟩
  · rcases h3 with ⟨-, e3⟩ | ⟨e3, -⟩
    · omega
    · exact absurd e3 e1
  · rcases h3 with ⟨e3, -⟩ | ⟨-, e3⟩
    · exact absurd rfl e3
    · obtain ⟨-, h7⟩ := hag (by decide)
      rw [e2, e3]
      exact wd_b_e 10 (fun p hp => by
        obtain ⟨-, k2, -⟩ := h7 (p : Int) (by omega) (by omega)
        show ¬ N 77 (p : Int) = 0 ↔ ¬ N' 77 (p : Int) = 0
        rw [k2])
theorem tw_61_of {N0 C1 : xa_M} {w v : Int} (hV : tu_V (-1) N0 w C1) (h : (¬ w = 0 ∧ v = w) ∨ (w = 0 ∧ v = wd_b (fun a => ¬ C1 14 a = 0) 10)) : tw_61 N0 v := by
  obtain ⟨N, h1, h2⟩ := hV
  refine ⟨w, N, ⟨N0, xm_cor_r, h1⟩, ?_⟩
  rcases h with h | ⟨rfl, h⟩
  · exact Or.inl h
  · refine Or.inr ⟨rfl, h.trans (wd_b_e 10 (fun p hp => ?_))⟩
    have hz := tu_z (h2 (by decide)) (show (0 : Int) ≤ (p : Int) by omega) (by omega)
    show ¬ C1 14 (p : Int) = 0 ↔ ¬ N 77 (p : Int) = 0
    omega
theorem ms_turningV {A : Nat → Nat} {h0 : g_H} {d : Nat} {M : xa_M} {post : Option xa_V → xa_M → Prop} (hI : xm_Inv M) (k : ∀ (o : Option xa_V) (M1 : xa_M), (∃ lo hi n, o = some (0, 0, lo, hi, n) ∧ tw_61 M n) → xm_cor M M1 → post o M1) : xa_C xm_I A h0 (d + 5) 232 [(2, 60, 0, 0, 0)] M post := by
  refine xa_meth (Q0 := (5, 1, false, 0, 0, 12)) (by decide +kernel) ⟨rfl, rfl⟩ (full := s_c_232) rfl rfl ?_
  intro hM hv Q hgo
  have loop : ∀ (n : Nat) (a b c : Int) (M1 : xa_M), 0 ≤ a → a ≤ 10 → xm_cor M M1 → b = wd_b (fun a => ¬ M1 77 a = 0) a.toNat → (∀ v, v = wd_b (fun a => ¬ M1 77 a = 0) 10 → tw_61 M v) → 10 - a < (n : Int) → Q 24 [(4, (0, 0, 0, 10, a)), (3, (0, 0, (-2147483648), 2147483647, c)), (2, (0, 0, (-2147483648), 2147483647, b)), (0, (2, 60, 0, 0, 0))] [] M1 := by
    intro n
    induction n with
    | zero => intro a b c M1 h1 h2 hc hb hS hms; clear hb hS; omega
    | succ n ih =>
      intro a b c M1 h1 h2 hc hb hS hms
      refine hgo.1 40 [24] 24 _ _ _ ?_
      refine And.intro ?_ ?_
      · intro (c1 : 10 ≤ a)
        show xa_C xm_I A h0 _ 231 [(2, 60, 0, 0, 0), (1, 0, (-2147483648), 2147483647, c)] (xa_up M1 60 20 0) _
        refine ct_tell (n := 0) (by first | rfl | (simp [xa_up]; done) | omega) (by omega) (by omega) ?_
        show post (some (0, 0, (-2147483648), 2147483647, b)) (xa_up (xa_up (xa_up M1 60 20 0) 74 0 c) 60 20 1)
        exact k _ _ ⟨_, _, _, rfl, hS _ (by rw [hb, show a.toNat = 10 by omega])⟩ (xm_cor_f (by omega) (xm_cor_a rfl (xm_cor_f (by omega) hc)))
      · intro (c1 : a < 10)
        refine And.intro (show 0 ≤ a ∧ a < 10 by omega) ?_
        refine And.intro ?_ ?_
        · intro (c2 : (M1 77 a) = 0)
          refine And.intro (show 0 ≤ a ∧ a < 10 by omega) ?_
          refine And.intro ?_ ?_
          · intro (c3 : (M1 77 a) = 0)
            show Q 24 [(4, (0, 0, 1, 11, a + 1)), (3, (0, 0, (-2147483648), 2147483647, xa_ib 4 c 0)), (2, (0, 0, (-2147483648), 2147483647, xa_ib 4 b 0)), (0, (2, 60, 0, 0, 0))] [] M1
            refine hgo.2.1 24 _ [(4, (0, 0, 0, 10, a + 1)), (3, (0, 0, (-2147483648), 2147483647, xa_ib 4 c 0)), (2, (0, 0, (-2147483648), 2147483647, xa_ib 4 b 0)), (0, (2, 60, 0, 0, 0))] _ _ (xa_subI rfl rfl (fun _ _ _ _ => by omega) (xa_subI rfl rfl (fun _ _ _ _ => by omega) (xa_subI rfl rfl (fun _ _ _ _ => by omega) (xa_subR rfl xa_sub0)))) ?_
            exact ih (a + 1) (xa_ib 4 b 0) (xa_ib 4 c 0) M1 (by omega) (by omega) hc (tw_bz h1 (fun h => h c2) hb) hS (by omega)
          · intro (c3 : ¬ (M1 77 a) = 0)
            refine And.intro (show 0 ≤ a ∧ a < 10 by omega) ?_
            refine And.intro ?_ ?_
            · intro (c4 : (M1 75 a) ≤ 0)
              show Q 24 [(4, (0, 0, 1, 11, a + 1)), (3, (0, 0, (-2147483648), 2147483647, xa_ib 4 c 0)), (2, (0, 0, (-2147483648), 2147483647, xa_ib 4 b 0)), (0, (2, 60, 0, 0, 0))] [] M1
              refine hgo.2.1 24 _ [(4, (0, 0, 0, 10, a + 1)), (3, (0, 0, (-2147483648), 2147483647, xa_ib 4 c 0)), (2, (0, 0, (-2147483648), 2147483647, xa_ib 4 b 0)), (0, (2, 60, 0, 0, 0))] _ _ (xa_subI rfl rfl (fun _ _ _ _ => by omega) (xa_subI rfl rfl (fun _ _ _ _ => by omega) (xa_subI rfl rfl (fun _ _ _ _ => by omega) (xa_subR rfl xa_sub0)))) ?_
              exact ih (a + 1) (xa_ib 4 b 0) (xa_ib 4 c 0) M1 (by omega) (by omega) hc (tw_bz h1 (fun h => h c2) hb) hS (by omega)
            · intro (c4 : 0 < (M1 75 a))
              show Q 24 [(4, (0, 0, 1, 11, a + 1)), (3, (0, 0, (-2147483648), 2147483647, xa_ib 4 c (xa_ib 6 1 a))), (2, (0, 0, (-2147483648), 2147483647, xa_ib 4 b 0)), (0, (2, 60, 0, 0, 0))] [] M1
              refine hgo.2.1 24 _ [(4, (0, 0, 0, 10, a + 1)), (3, (0, 0, (-2147483648), 2147483647, xa_ib 4 c (xa_ib 6 1 a))), (2, (0, 0, (-2147483648), 2147483647, xa_ib 4 b 0)), (0, (2, 60, 0, 0, 0))] _ _ (xa_subI rfl rfl (fun _ _ _ _ => by omega) (xa_subI rfl rfl (fun _ _ _ _ => by omega) (xa_subI rfl rfl (fun _ _ _ _ => by omega) (xa_subR rfl xa_sub0)))) ?_
              exact ih (a + 1) (xa_ib 4 b 0) (xa_ib 4 c (xa_ib 6 1 a)) M1 (by omega) (by omega) hc (tw_bz h1 (fun h => h c2) hb) hS (by omega)
        · intro (c2 : ¬ (M1 77 a) = 0)
          refine And.intro (show 0 ≤ a ∧ a < 10 by omega) ?_
          refine And.intro ?_ ?_
          · intro (c5 : (M1 77 a) = 0)
            show Q 24 [(4, (0, 0, 1, 11, a + 1)), (3, (0, 0, (-2147483648), 2147483647, xa_ib 4 c 0)), (2, (0, 0, (-2147483648), 2147483647, xa_ib 4 b (xa_ib 6 1 a))), (0, (2, 60, 0, 0, 0))] [] M1
            refine hgo.2.1 24 _ [(4, (0, 0, 0, 10, a + 1)), (3, (0, 0, (-2147483648), 2147483647, xa_ib 4 c 0)), (2, (0, 0, (-2147483648), 2147483647, xa_ib 4 b (xa_ib 6 1 a))), (0, (2, 60, 0, 0, 0))] _ _ (xa_subI rfl rfl (fun _ _ _ _ => by omega) (xa_subI rfl rfl (fun _ _ _ _ => by omega) (xa_subI rfl rfl (fun _ _ _ _ => by omega) (xa_subR rfl xa_sub0)))) ?_
            exact ih (a + 1) (xa_ib 4 b (xa_ib 6 1 a)) (xa_ib 4 c 0) M1 (by omega) (by omega) hc (tw_b1 h1 c2 hb) hS (by omega)
          · intro (c5 : ¬ (M1 77 a) = 0)
            refine And.intro (show 0 ≤ a ∧ a < 10 by omega) ?_
            refine And.intro ?_ ?_
            · intro (c6 : (M1 75 a) ≤ 0)
              show Q 24 [(4, (0, 0, 1, 11, a + 1)), (3, (0, 0, (-2147483648), 2147483647, xa_ib 4 c 0)), (2, (0, 0, (-2147483648), 2147483647, xa_ib 4 b (xa_ib 6 1 a))), (0, (2, 60, 0, 0, 0))] [] M1
              refine hgo.2.1 24 _ [(4, (0, 0, 0, 10, a + 1)), (3, (0, 0, (-2147483648), 2147483647, xa_ib 4 c 0)), (2, (0, 0, (-2147483648), 2147483647, xa_ib 4 b (xa_ib 6 1 a))), (0, (2, 60, 0, 0, 0))] _ _ (xa_subI rfl rfl (fun _ _ _ _ => by omega) (xa_subI rfl rfl (fun _ _ _ _ => by omega) (xa_subI rfl rfl (fun _ _ _ _ => by omega) (xa_subR rfl xa_sub0)))) ?_
              exact ih (a + 1) (xa_ib 4 b (xa_ib 6 1 a)) (xa_ib 4 c 0) M1 (by omega) (by omega) hc (tw_b1 h1 c2 hb) hS (by omega)
            · intro (c6 : 0 < (M1 75 a))
              show Q 24 [(4, (0, 0, 1, 11, a + 1)), (3, (0, 0, (-2147483648), 2147483647, xa_ib 4 c (xa_ib 6 1 a))), (2, (0, 0, (-2147483648), 2147483647, xa_ib 4 b (xa_ib 6 1 a))), (0, (2, 60, 0, 0, 0))] [] M1
              refine hgo.2.1 24 _ [(4, (0, 0, 0, 10, a + 1)), (3, (0, 0, (-2147483648), 2147483647, xa_ib 4 c (xa_ib 6 1 a))), (2, (0, 0, (-2147483648), 2147483647, xa_ib 4 b (xa_ib 6 1 a))), (0, (2, 60, 0, 0, 0))] _ _ (xa_subI rfl rfl (fun _ _ _ _ => by omega) (xa_subI rfl rfl (fun _ _ _ _ => by omega) (xa_subI rfl rfl (fun _ _ _ _ => by omega) (xa_subR rfl xa_sub0)))) ?_
              exact ih (a + 1) (xa_ib 4 b (xa_ib 6 1 a)) (xa_ib 4 c (xa_ib 6 1 a)) M1 (by omega) (by omega) hc (tw_b1 h1 c2 hb) hS (by omega)
  refine hgo.1 20 [24] 0 _ _ _ ?_
  show xa_C xm_I A h0 _ 227 [(2, 60, 0, 0, 0), (0, 0, (-1), (-1), (-1))] (xa_up M 60 21 0) _
  refine xa_C_mok (ct_findTurns (xm_Inv_cor (xm_cor_f (by omega) xm_cor_r) hI) (fun v1 M1 hv1 hc1 hT1 hF1 hM1 => ?_))
  refine And.intro ?_ ?_
  · intro (c2 : 0 ≤ v1)
    show Q 24 [(4, (0, 0, 0, 0, 0)), (3, (0, 0, 0, 0, 0)), (2, (0, 0, 0, 0, 0)), (1, (0, 0, (-5), 0, v1)), (0, (2, 60, 0, 0, 0))] [] M1
    refine hgo.2.1 24 _ [(4, (0, 0, 0, 10, 0)), (3, (0, 0, (-2147483648), 2147483647, 0)), (2, (0, 0, (-2147483648), 2147483647, 0)), (0, (2, 60, 0, 0, 0))] _ _ (xa_subI rfl rfl (fun _ _ _ _ => by omega) (xa_subI rfl rfl (fun _ _ _ _ => by omega) (xa_subI rfl rfl (fun _ _ _ _ => by omega) (xa_subR rfl xa_sub0)))) ?_
    exact loop 11 0 0 0 M1 (by omega) (by omega) (xm_cor_t (xm_cor_f (by omega) xm_cor_r) hc1) rfl (fun v e => ⟨v1, M1, ⟨_, xm_cor_f (by omega) xm_cor_r, hF1⟩, Or.inr ⟨by omega, e⟩⟩) (by omega)
  · intro (c2 : v1 < 0)
    show post (some (0, 0, (-5), 0, v1)) M1
    exact k _ _ ⟨_, _, _, rfl, ⟨v1, M1, ⟨_, xm_cor_f (by omega) xm_cor_r, hF1⟩, Or.inl ⟨by omega, rfl⟩⟩⟩ (xm_cor_t (xm_cor_f (by omega) xm_cor_r) hc1)

theorem cx_61v {b : Bool} {A : Nat → Nat} {h0 : g_H} {d : Nat} {M : xa_M} {post : Option xa_V → xa_M → Prop} {N0 : xa_M} (hM0 : tu_M N0) (hC0 : tu_C M N0) (k : ∀ (lo hi v : Int) (M1 : xa_M), tw_61 N0 v → (∀ (q : Nat) (j : Int), ¬ (12 ≤ q ∧ q ≤ 14) → ¬ (q = 48 ∨ q = 49) → M1 q j = M q j) → post (some (0, 0, lo, hi, v)) M1) : xa_C (xl_I b) A h0 (d + 7) 61 [(2, 0, 0, 0, 0)] M post := by
  refine xa_meth (Q0 := (5, 1, false, 0, 0, 11)) (by decide +kernel) ⟨rfl, rfl⟩ (full := s_c_61) rfl rfl ?_
  intro hM hv Q hgo
  have loop : ∀ (f : Nat) (a x y : Int) (M1 : xa_M), 0 ≤ a ∧ a ≤ 10 → tu_G M M1 → x = wd_b (fun a => ¬ M1 14 a = 0) a.toNat → (∀ v, v = wd_b (fun a => ¬ M1 14 a = 0) 10 → tw_61 N0 v) → 10 - a < (f : Int) → Q 26 [(4, (0, 0, 0, 10, a)), (3, (0, 0, (-2147483648), 2147483647, y)), (2, (0, 0, (-2147483648), 2147483647, x)), (0, (2, 0, 0, 0, 0))] [] M1 := by
    intro f
    induction f with
    | zero => intro a x y M1 a1 hG hb hS hms; clear hb hS; omega
    | succ f ih =>
      intro a x y M1 a1 hG hb hS hms
      refine hgo.1 34 [26] 26 _ _ _ ?_
      refine And.intro ?_ ?_
      · intro (c1 : 10 ≤ a)
        show xa_C (xl_I b) A h0 _ 59 [(2, 48, 0, 0, 0)] M1 _
        refine cx_59_48 ?_
        show xa_C (xl_I b) A h0 _ 60 [(2, 48, 0, 0, 0), (1, 0, (-2147483648), 2147483647, y)] (xa_up M1 48 1 0) _
        refine cx_60a (by show (0 : Int) ≤ 0; omega) ?_
        intro M101 (i2 : ∀ (q : Nat) (j : Int), ¬ (q = 48 ∨ q = 49) → M101 q j = (xa_up M1 48 1 0) q j) (i3 : (0 : Int) ≤ M101 48 1)
        show post (some (0, 0, (-2147483648), 2147483647, x)) M101
        exact k _ _ _ _ (hS _ (by rw [hb, show a.toNat = 10 by omega])) (fun q j h1 h2 => (i2 q j h2).trans ((xa_up_ne (by omega)).trans (hG q j h1)))
      · intro (c1 : a < 10)
        show xa_C (xl_I b) A h0 _ 50 [(2, 12, 0, 0, 0), (0, 0, 0, 10, a)] M1 _
        refine cx_50_12 (show 0 ≤ a ∧ a < 10 by omega) ?_ ?_
        · intro (i4 : (M1 14 a) = 0)
          show Q 26 [(4, (0, 0, 1, 11, a + 1)), (3, (0, 0, (-2147483648), 2147483647, y)), (2, (0, 0, (-2147483648), 2147483647, x)), (0, (2, 0, 0, 0, 0))] [] M1
          refine hgo.2.1 26 _ [(4, (0, 0, 0, 10, a + 1)), (3, (0, 0, (-2147483648), 2147483647, y)), (2, (0, 0, (-2147483648), 2147483647, x)), (0, (2, 0, 0, 0, 0))] _ _ (xa_subI rfl rfl (fun _ _ _ _ => by omega) (xa_subI rfl rfl (fun _ _ _ _ => by omega) (xa_subI rfl rfl (fun _ _ _ _ => by omega) (xa_subR rfl (xa_sub0))))) ?_
          exact ih (a + 1) x y M1 (by omega) hG (tw_b0 a1.1 (fun h => h i4) hb) hS (by omega)
        · intro (i5 : ¬ (M1 14 a) = 0)
          show xa_C (xl_I b) A h0 _ 54 [(2, 12, 0, 0, 0), (0, 0, 0, 10, a)] M1 _
          refine cx_54_12 (show 0 ≤ a ∧ a < 10 by omega) ?_
          refine And.intro ?_ ?_
          · intro (c6 : (M1 13 a) ≤ 0)
            show Q 26 [(4, (0, 0, 1, 11, a + 1)), (3, (0, 0, (-2147483648), 2147483647, xa_ib 4 y 0)), (2, (0, 0, (-2147483648), 2147483647, xa_ib 4 x (xa_ib 6 1 a))), (0, (2, 0, 0, 0, 0))] [] M1
            refine hgo.2.1 26 _ [(4, (0, 0, 0, 10, a + 1)), (3, (0, 0, (-2147483648), 2147483647, xa_ib 4 y 0)), (2, (0, 0, (-2147483648), 2147483647, xa_ib 4 x (xa_ib 6 1 a))), (0, (2, 0, 0, 0, 0))] _ _ (xa_subI rfl rfl (fun _ _ _ _ => by omega) (xa_subI rfl rfl (fun _ _ _ _ => by omega) (xa_subI rfl rfl (fun _ _ _ _ => by omega) (xa_subR rfl (xa_sub0))))) ?_
            exact ih (a + 1) (xa_ib 4 x (xa_ib 6 1 a)) (xa_ib 4 y 0) M1 (by omega) hG (tw_b1 a1.1 i5 hb) hS (by omega)
          · intro (c6 : 0 < (M1 13 a))
            show Q 26 [(4, (0, 0, 1, 11, a + 1)), (3, (0, 0, (-2147483648), 2147483647, xa_ib 4 y (xa_ib 6 1 a))), (2, (0, 0, (-2147483648), 2147483647, xa_ib 4 x (xa_ib 6 1 a))), (0, (2, 0, 0, 0, 0))] [] M1
            refine hgo.2.1 26 _ [(4, (0, 0, 0, 10, a + 1)), (3, (0, 0, (-2147483648), 2147483647, xa_ib 4 y (xa_ib 6 1 a))), (2, (0, 0, (-2147483648), 2147483647, xa_ib 4 x (xa_ib 6 1 a))), (0, (2, 0, 0, 0, 0))] _ _ (xa_subI rfl rfl (fun _ _ _ _ => by omega) (xa_subI rfl rfl (fun _ _ _ _ => by omega) (xa_subI rfl rfl (fun _ _ _ _ => by omega) (xa_subR rfl (xa_sub0))))) ?_
            exact ih (a + 1) (xa_ib 4 x (xa_ib 6 1 a)) (xa_ib 4 y (xa_ib 6 1 a)) M1 (by omega) hG (tw_b1 a1.1 i5 hb) hS (by omega)
  refine hgo.1 20 [26] 0 _ _ _ ?_
  show xa_C (xl_I b) A h0 _ 47 [(2, 12, 0, 0, 0), (2, 1, 0, 0, 0), (0, 0, (-1), (-1), (-1))] M _
  refine cx_47t hM0 hC0 ?_
  intro v102 M103 (i1 : v102 = 0 ∨ v102 = -3 ∨ v102 = -5) (i2 : tu_V (-1) N0 v102 M103) (i3 : tu_G M M103)
  refine And.intro ?_ ?_
  · intro (c4 : v102 = 0)
    show Q 26 [(4, (0, 0, 0, 0, 0)), (3, (0, 0, 0, 0, 0)), (2, (0, 0, 0, 0, 0)), (1, (0, 0, (-5), 0, v102)), (0, (2, 0, 0, 0, 0))] [] M103
    refine hgo.2.1 26 _ [(4, (0, 0, 0, 10, 0)), (3, (0, 0, (-2147483648), 2147483647, 0)), (2, (0, 0, (-2147483648), 2147483647, 0)), (0, (2, 0, 0, 0, 0))] _ _ (xa_subI rfl rfl (fun _ _ _ _ => by omega) (xa_subI rfl rfl (fun _ _ _ _ => by omega) (xa_subI rfl rfl (fun _ _ _ _ => by omega) (xa_subR rfl (xa_sub0))))) ?_
    exact loop 11 0 0 0 M103 (by omega) i3 rfl (fun v e => tw_61_of i2 (Or.inr ⟨by omega, e⟩)) (by omega)
  · intro (c4 : ¬ v102 = 0)
    show post (some (0, 0, (-5), 0, v102)) M103
    exact k _ _ _ _ (tw_61_of i2 (Or.inl ⟨by omega, rfl⟩)) (fun q j h1 h2 => i3 q j h1)
