set_option maxRecDepth 20000
theorem rw_1 {R : Int → Int} {x : Int} (h : R 0 = x) (i : Int) (i0 : 0 ≤ i) (i1 : i < 1) : R i = rw_v [x] i := by
  obtain rfl : i = 0 := by omega
  exact h
/-- which axles turn as the first -/
def rw_s61 (N0 : xa_M) (V : Int → Int) : Prop := ∃ N, tw_F N0 (-1) 0 N ∧ V = rw_v [wd_b (fun a => ¬ N 77 a = 0 ∧ 0 < N 75 a) 10]
theorem rw_s61_of {N0 C1 : xa_M} {w : Int} {V : Int → Int} (hV : tu_V (-1) N0 w C1) (hw : w = 0) (h : V = rw_v [wd_b (fun a => ¬ C1 14 a = 0 ∧ 0 < C1 13 a) 10]) : rw_s61 N0 V := by
  subst hw
  obtain ⟨N, h1, h2⟩ := hV
  refine ⟨N, ⟨N0, xm_cor_r, h1⟩, h.trans (congrArg (fun x => rw_v [x]) (wd_b_e 10 (fun p hp => ?_)))⟩
  show (¬ C1 14 (p : Int) = 0 ∧ 0 < C1 13 (p : Int)) ↔ (¬ N 77 (p : Int) = 0 ∧ 0 < N 75 (p : Int))
  rcases h2 (by decide) (p : Int) (by omega) (by omega) with ⟨a, b⟩ | ⟨a, ⟨b, c⟩, -, e, -⟩ <;> omega
theorem rw_s61_one {N0 : xa_M} {V V' : Int → Int} (hr : xm_rng N0) (h : rw_s61 N0 V) (h' : rw_s61 N0 V') : V = V' := by
  obtain ⟨N, hF, rfl⟩ := h
  obtain ⟨N', hF', rfl⟩ := h'
  obtain ⟨-, hag⟩ := tw_F_det hr hF hF'
  obtain ⟨-, h7⟩ := hag (by decide)
  refine congrArg (fun x => rw_v [x]) (wd_b_e 10 (fun p hp => ?_))
  obtain ⟨k1, k2, k3⟩ := h7 (p : Int) (by omega) (by omega)
  show (¬ N 77 (p : Int) = 0 ∧ 0 < N 75 (p : Int)) ↔ (¬ N' 77 (p : Int) = 0 ∧ 0 < N' 75 (p : Int))
  rcases k1 with k1 | k1
  · omega
  · obtain ⟨k4, -⟩ := k3 k1
    omega
theorem rw_61 {b : Bool} {A : Nat → Nat} {h0 : g_H} {d : Nat} {M : xa_M} {post : Option xa_V → xa_M → Prop} {N0 : xa_M} (hM0 : tu_M N0) (hC0 : tu_C M N0) (k : ∀ (lo hi v : Int) (M1 : xa_M), tw_61 N0 v → (∀ (q : Nat) (j : Int), ¬ (12 ≤ q ∧ q ≤ 14) → ¬ (q = 48 ∨ q = 49) → M1 q j = M q j) → rz_c (0 ≤ (v : Int)) (M 48 1) (M1 48 1) (1) → rw_k (0 ≤ v) (M 48 1) (M 49) (M1 48 1) (M1 49) 1 (fun V => rw_s61 N0 V) → post (some (0, 0, lo, hi, v)) M1) : xa_C (xl_I b) A h0 (d + 7) 61 [(2, 0, 0, 0, 0)] M post := by
  refine xa_meth (Q0 := (5, 1, false, 0, 0, 11)) (by decide +kernel) ⟨rfl, rfl⟩ (full := s_c_61) rfl rfl ?_
  intro hM hv Q hgo
  have loop : ∀ (f : Nat) (a x y : Int) (M1 : xa_M), 0 ≤ a ∧ a ≤ 10 → tu_G M M1 → x = wd_b (fun a => ¬ M1 14 a = 0) a.toNat → (∀ v, v = wd_b (fun a => ¬ M1 14 a = 0) 10 → tw_61 N0 v) → y = wd_b (fun a => ¬ M1 14 a = 0 ∧ 0 < M1 13 a) a.toNat → (∀ V, V = rw_v [wd_b (fun a => ¬ M1 14 a = 0 ∧ 0 < M1 13 a) 10] → rw_s61 N0 V) → 10 - a < (f : Int) → Q 26 [(4, (0, 0, 0, 10, a)), (3, (0, 0, (-2147483648), 2147483647, y)), (2, (0, 0, (-2147483648), 2147483647, x)), (0, (2, 0, 0, 0, 0))] [] M1 := by
    intro f
    induction f with
    | zero => intro a x y M1 a1 hG hb hS hy hT hms; clear hb hS hy hT; omega
    | succ f ih =>
      intro a x y M1 a1 hG hb hS hy hT hms
      refine hgo.1 34 [26] 26 _ _ _ ?_
      refine And.intro ?_ ?_
      · intro (c1 : 10 ≤ a)
        show xa_C (xl_I b) A h0 _ 59 [(2, 48, 0, 0, 0)] M1 _
        refine cx_59_48 ?_
        show xa_C (xl_I b) A h0 _ 60 [(2, 48, 0, 0, 0), (1, 0, (-2147483648), 2147483647, y)] (xa_up M1 48 1 0) _
        refine rw_60 (l := []) (by show (0 : Int) ≤ 0 ∧ 0 < 16; omega) xa_up_eq rw_T0 ?_
        intro M101 (i2 : ∀ (q : Nat) (j : Int), ¬ (q = 48 ∨ q = 49) → M101 q j = (xa_up M1 48 1 0) q j) (i3 : (0 : Int) ≤ M101 48 1) (zM101 : M101 48 1 = 0 + 1) (tM101 : rw_T (M101 49) [y])
        show post (some (0, 0, (-2147483648), 2147483647, x)) M101
        exact k _ _ _ _ (hS _ (by rw [hb, show a.toNat = 10 by omega])) (fun q j h1 h2 => (i2 q j h2).trans ((xa_up_ne (by omega)).trans (hG q j h1))) (by have rr : 0 ≤ x := (by rw [hb]; exact rz_wn _ (by omega)); unfold rz_c; omega) (rw_yes (by have rr : 0 ≤ x := (by rw [hb]; exact rz_wn _ (by omega)); show 0 ≤ (x : Int); omega) (by have rr : 0 ≤ x := (by rw [hb]; exact rz_wn _ (by omega)); omega) (V := rw_v [wd_b (fun a => ¬ M1 14 a = 0 ∧ 0 < M1 13 a) 10]) (fun i i0 i1 => by have q := tM101 i i0 i1; rw [hy, show a.toNat = 10 by omega] at q; exact q) (hT _ rfl))
      · intro (c1 : a < 10)
        show xa_C (xl_I b) A h0 _ 50 [(2, 12, 0, 0, 0), (0, 0, 0, 10, a)] M1 _
        refine cx_50_12 (show 0 ≤ a ∧ a < 10 by omega) ?_ ?_
        · intro (i4 : (M1 14 a) = 0)
          show Q 26 [(4, (0, 0, 1, 11, a + 1)), (3, (0, 0, (-2147483648), 2147483647, y)), (2, (0, 0, (-2147483648), 2147483647, x)), (0, (2, 0, 0, 0, 0))] [] M1
          refine hgo.2.1 26 _ [(4, (0, 0, 0, 10, a + 1)), (3, (0, 0, (-2147483648), 2147483647, y)), (2, (0, 0, (-2147483648), 2147483647, x)), (0, (2, 0, 0, 0, 0))] _ _ (xa_subI rfl rfl (fun _ _ _ _ => by omega) (xa_subI rfl rfl (fun _ _ _ _ => by omega) (xa_subI rfl rfl (fun _ _ _ _ => by omega) (xa_subR rfl (xa_sub0))))) ?_
          exact ih (a + 1) x y M1 (by omega) hG (tw_b0 a1.1 (fun h => h i4) hb) hS (tw_b0 a1.1 (fun h => h.1 i4) hy) hT (by omega)
        · intro (i5 : ¬ (M1 14 a) = 0)
          show xa_C (xl_I b) A h0 _ 54 [(2, 12, 0, 0, 0), (0, 0, 0, 10, a)] M1 _
          refine cx_54_12 (show 0 ≤ a ∧ a < 10 by omega) ?_
          refine And.intro ?_ ?_
          · intro (c6 : (M1 13 a) ≤ 0)
            show Q 26 [(4, (0, 0, 1, 11, a + 1)), (3, (0, 0, (-2147483648), 2147483647, xa_ib 4 y 0)), (2, (0, 0, (-2147483648), 2147483647, xa_ib 4 x (xa_ib 6 1 a))), (0, (2, 0, 0, 0, 0))] [] M1
            refine hgo.2.1 26 _ [(4, (0, 0, 0, 10, a + 1)), (3, (0, 0, (-2147483648), 2147483647, xa_ib 4 y 0)), (2, (0, 0, (-2147483648), 2147483647, xa_ib 4 x (xa_ib 6 1 a))), (0, (2, 0, 0, 0, 0))] _ _ (xa_subI rfl rfl (fun _ _ _ _ => by omega) (xa_subI rfl rfl (fun _ _ _ _ => by omega) (xa_subI rfl rfl (fun _ _ _ _ => by omega) (xa_subR rfl (xa_sub0))))) ?_
            exact ih (a + 1) (xa_ib 4 x (xa_ib 6 1 a)) (xa_ib 4 y 0) M1 (by omega) hG (tw_b1 a1.1 i5 hb) hS (tw_bz a1.1 (fun h => by have q1 := h.2; omega) hy) hT (by omega)
          · intro (c6 : 0 < (M1 13 a))
            show Q 26 [(4, (0, 0, 1, 11, a + 1)), (3, (0, 0, (-2147483648), 2147483647, xa_ib 4 y (xa_ib 6 1 a))), (2, (0, 0, (-2147483648), 2147483647, xa_ib 4 x (xa_ib 6 1 a))), (0, (2, 0, 0, 0, 0))] [] M1
            refine hgo.2.1 26 _ [(4, (0, 0, 0, 10, a + 1)), (3, (0, 0, (-2147483648), 2147483647, xa_ib 4 y (xa_ib 6 1 a))), (2, (0, 0, (-2147483648), 2147483647, xa_ib 4 x (xa_ib 6 1 a))), (0, (2, 0, 0, 0, 0))] _ _ (xa_subI rfl rfl (fun _ _ _ _ => by omega) (xa_subI rfl rfl (fun _ _ _ _ => by omega) (xa_subI rfl rfl (fun _ _ _ _ => by omega) (xa_subR rfl (xa_sub0))))) ?_
            exact ih (a + 1) (xa_ib 4 x (xa_ib 6 1 a)) (xa_ib 4 y (xa_ib 6 1 a)) M1 (by omega) hG (tw_b1 a1.1 i5 hb) hS (tw_b1 a1.1 ⟨i5, c6⟩ hy) hT (by omega)
  refine hgo.1 20 [26] 0 _ _ _ ?_
  show xa_C (xl_I b) A h0 _ 47 [(2, 12, 0, 0, 0), (2, 1, 0, 0, 0), (0, 0, (-1), (-1), (-1))] M _
  refine cx_47t hM0 hC0 ?_
  intro v102 M103 (i1 : v102 = 0 ∨ v102 = -3 ∨ v102 = -5) (i2 : tu_V (-1) N0 v102 M103) (i3 : tu_G M M103)
  refine And.intro ?_ ?_
  · intro (c4 : v102 = 0)
    show Q 26 [(4, (0, 0, 0, 0, 0)), (3, (0, 0, 0, 0, 0)), (2, (0, 0, 0, 0, 0)), (1, (0, 0, (-5), 0, v102)), (0, (2, 0, 0, 0, 0))] [] M103
    refine hgo.2.1 26 _ [(4, (0, 0, 0, 10, 0)), (3, (0, 0, (-2147483648), 2147483647, 0)), (2, (0, 0, (-2147483648), 2147483647, 0)), (0, (2, 0, 0, 0, 0))] _ _ (xa_subI rfl rfl (fun _ _ _ _ => by omega) (xa_subI rfl rfl (fun _ _ _ _ => by omega) (xa_subI rfl rfl (fun _ _ _ _ => by omega) (xa_subR rfl (xa_sub0))))) ?_
    exact loop 11 0 0 0 M103 (by omega) i3 rfl (fun v e => tw_61_of i2 (Or.inr ⟨by omega, e⟩)) rfl (fun V e => rw_s61_of i2 (by omega) e) (by omega)
  · intro (c4 : ¬ v102 = 0)
    show post (some (0, 0, (-5), 0, v102)) M103
    exact k _ _ _ _ (tw_61_of i2 (Or.inl ⟨by omega, rfl⟩)) (fun q j h1 h2 => i3 q j h1) (by have zi3 := i3 48 1 (by omega); unfold rz_c; omega) (rw_no (by have zi3 := i3 48 1 (by omega); show ¬ 0 ≤ (v102 : Int); omega) (by have zi3 := i3 48 1 (by omega); omega) (fun i _ _ => i3 49 i (by omega)))
theorem rw_m61 {A : Nat → Nat} {h0 : g_H} {d : Nat} {M : xa_M} {post : Option xa_V → xa_M → Prop} (hI : xm_Inv M) (k : ∀ (o : Option xa_V) (M1 : xa_M), (∃ lo hi n, o = some (0, 0, lo, hi, n) ∧ tw_61 M n ∧ rz_c (0 ≤ (n : Int)) (M 60 20) (M1 60 20) (1) ∧ rw_k (0 ≤ n) (M 60 20) (M 74) (M1 60 20) (M1 74) 1 (fun V => rw_s61 M V)) → xm_cor M M1 → post o M1) : xa_C xm_I A h0 (d + 5) 232 [(2, 60, 0, 0, 0)] M post := by
  refine xa_meth (Q0 := (5, 1, false, 0, 0, 12)) (by decide +kernel) ⟨rfl, rfl⟩ (full := s_c_232) rfl rfl ?_
  intro hM hv Q hgo
  have loop : ∀ (n : Nat) (a b c : Int) (M1 : xa_M), 0 ≤ a → a ≤ 10 → xm_cor M M1 → b = wd_b (fun a => ¬ M1 77 a = 0) a.toNat → (∀ v, v = wd_b (fun a => ¬ M1 77 a = 0) 10 → tw_61 M v) → c = wd_b (fun a => ¬ M1 77 a = 0 ∧ 0 < M1 75 a) a.toNat → (∀ V, V = rw_v [wd_b (fun a => ¬ M1 77 a = 0 ∧ 0 < M1 75 a) 10] → rw_s61 M V) → 10 - a < (n : Int) → Q 24 [(4, (0, 0, 0, 10, a)), (3, (0, 0, (-2147483648), 2147483647, c)), (2, (0, 0, (-2147483648), 2147483647, b)), (0, (2, 60, 0, 0, 0))] [] M1 := by
    intro n
    induction n with
    | zero => intro a b c M1 h1 h2 hc hb hS hy hT hms; clear hb hS hy hT; omega
    | succ n ih =>
      intro a b c M1 h1 h2 hc hb hS hy hT hms
      refine hgo.1 40 [24] 24 _ _ _ ?_
      refine And.intro ?_ ?_
      · intro (c1 : 10 ≤ a)
        show xa_C xm_I A h0 _ 231 [(2, 60, 0, 0, 0), (1, 0, (-2147483648), 2147483647, c)] (xa_up M1 60 20 0) _
        refine ct_tell (n := 0) (by first | rfl | (simp [xa_up]; done) | omega) (by omega) (by omega) ?_
        show post (some (0, 0, (-2147483648), 2147483647, b)) (xa_up (xa_up (xa_up M1 60 20 0) 74 0 c) 60 20 1)
        exact k _ _ ⟨_, _, _, rfl, hS _ (by rw [hb, show a.toNat = 10 by omega]), by show rz_c (0 ≤ (b : Int)) (M 60 20) (1) (1); have rr : 0 ≤ b := (by rw [hb]; exact rz_wn _ (by omega)); unfold rz_c; omega, by exact rw_yes (by have rr : 0 ≤ b := (by rw [hb]; exact rz_wn _ (by omega)); show 0 ≤ (b : Int); omega) xa_up_eq (V := rw_v [wd_b (fun a => ¬ M1 77 a = 0 ∧ 0 < M1 75 a) 10]) (fun i i0 i1 => rw_1 (((xa_up_ne (by omega)).trans xa_up_eq).trans (by rw [hy, show a.toNat = 10 by omega])) i i0 i1) (hT _ rfl)⟩ (xm_cor_f (by omega) (xm_cor_a rfl (xm_cor_f (by omega) hc)))
      · intro (c1 : a < 10)
        refine And.intro (show 0 ≤ a ∧ a < 10 by omega) ?_
        refine And.intro ?_ ?_
        · intro (c2 : (M1 77 a) = 0)
          refine And.intro (show 0 ≤ a ∧ a < 10 by omega) ?_
          refine And.intro ?_ ?_
          · intro (c3 : (M1 77 a) = 0)
            show Q 24 [(4, (0, 0, 1, 11, a + 1)), (3, (0, 0, (-2147483648), 2147483647, xa_ib 4 c 0)), (2, (0, 0, (-2147483648), 2147483647, xa_ib 4 b 0)), (0, (2, 60, 0, 0, 0))] [] M1
            refine hgo.2.1 24 _ [(4, (0, 0, 0, 10, a + 1)), (3, (0, 0, (-2147483648), 2147483647, xa_ib 4 c 0)), (2, (0, 0, (-2147483648), 2147483647, xa_ib 4 b 0)), (0, (2, 60, 0, 0, 0))] _ _ (xa_subI rfl rfl (fun _ _ _ _ => by omega) (xa_subI rfl rfl (fun _ _ _ _ => by omega) (xa_subI rfl rfl (fun _ _ _ _ => by omega) (xa_subR rfl xa_sub0)))) ?_
            exact ih (a + 1) (xa_ib 4 b 0) (xa_ib 4 c 0) M1 (by omega) (by omega) hc (tw_bz h1 (fun h => h c2) hb) hS (tw_bz h1 (fun h => by have q1 := h.1; have q2 := h.2; omega) hy) hT (by omega)
          · intro (c3 : ¬ (M1 77 a) = 0)
            refine And.intro (show 0 ≤ a ∧ a < 10 by omega) ?_
            refine And.intro ?_ ?_
            · intro (c4 : (M1 75 a) ≤ 0)
              show Q 24 [(4, (0, 0, 1, 11, a + 1)), (3, (0, 0, (-2147483648), 2147483647, xa_ib 4 c 0)), (2, (0, 0, (-2147483648), 2147483647, xa_ib 4 b 0)), (0, (2, 60, 0, 0, 0))] [] M1
              refine hgo.2.1 24 _ [(4, (0, 0, 0, 10, a + 1)), (3, (0, 0, (-2147483648), 2147483647, xa_ib 4 c 0)), (2, (0, 0, (-2147483648), 2147483647, xa_ib 4 b 0)), (0, (2, 60, 0, 0, 0))] _ _ (xa_subI rfl rfl (fun _ _ _ _ => by omega) (xa_subI rfl rfl (fun _ _ _ _ => by omega) (xa_subI rfl rfl (fun _ _ _ _ => by omega) (xa_subR rfl xa_sub0)))) ?_
              exact ih (a + 1) (xa_ib 4 b 0) (xa_ib 4 c 0) M1 (by omega) (by omega) hc (tw_bz h1 (fun h => h c2) hb) hS (tw_bz h1 (fun h => by have q1 := h.1; have q2 := h.2; omega) hy) hT (by omega)
            · intro (c4 : 0 < (M1 75 a))
              show Q 24 [(4, (0, 0, 1, 11, a + 1)), (3, (0, 0, (-2147483648), 2147483647, xa_ib 4 c (xa_ib 6 1 a))), (2, (0, 0, (-2147483648), 2147483647, xa_ib 4 b 0)), (0, (2, 60, 0, 0, 0))] [] M1
              refine hgo.2.1 24 _ [(4, (0, 0, 0, 10, a + 1)), (3, (0, 0, (-2147483648), 2147483647, xa_ib 4 c (xa_ib 6 1 a))), (2, (0, 0, (-2147483648), 2147483647, xa_ib 4 b 0)), (0, (2, 60, 0, 0, 0))] _ _ (xa_subI rfl rfl (fun _ _ _ _ => by omega) (xa_subI rfl rfl (fun _ _ _ _ => by omega) (xa_subI rfl rfl (fun _ _ _ _ => by omega) (xa_subR rfl xa_sub0)))) ?_
              exact ih (a + 1) (xa_ib 4 b 0) (xa_ib 4 c (xa_ib 6 1 a)) M1 (by omega) (by omega) hc (tw_bz h1 (fun h => h c2) hb) hS (tw_b1 h1 ⟨by omega, by omega⟩ hy) hT (by omega)
        · intro (c2 : ¬ (M1 77 a) = 0)
          refine And.intro (show 0 ≤ a ∧ a < 10 by omega) ?_
          refine And.intro ?_ ?_
          · intro (c5 : (M1 77 a) = 0)
            show Q 24 [(4, (0, 0, 1, 11, a + 1)), (3, (0, 0, (-2147483648), 2147483647, xa_ib 4 c 0)), (2, (0, 0, (-2147483648), 2147483647, xa_ib 4 b (xa_ib 6 1 a))), (0, (2, 60, 0, 0, 0))] [] M1
            refine hgo.2.1 24 _ [(4, (0, 0, 0, 10, a + 1)), (3, (0, 0, (-2147483648), 2147483647, xa_ib 4 c 0)), (2, (0, 0, (-2147483648), 2147483647, xa_ib 4 b (xa_ib 6 1 a))), (0, (2, 60, 0, 0, 0))] _ _ (xa_subI rfl rfl (fun _ _ _ _ => by omega) (xa_subI rfl rfl (fun _ _ _ _ => by omega) (xa_subI rfl rfl (fun _ _ _ _ => by omega) (xa_subR rfl xa_sub0)))) ?_
            exact ih (a + 1) (xa_ib 4 b (xa_ib 6 1 a)) (xa_ib 4 c 0) M1 (by omega) (by omega) hc (tw_b1 h1 c2 hb) hS (tw_bz h1 (fun h => by have q1 := h.1; have q2 := h.2; omega) hy) hT (by omega)
          · intro (c5 : ¬ (M1 77 a) = 0)
            refine And.intro (show 0 ≤ a ∧ a < 10 by omega) ?_
            refine And.intro ?_ ?_
            · intro (c6 : (M1 75 a) ≤ 0)
              show Q 24 [(4, (0, 0, 1, 11, a + 1)), (3, (0, 0, (-2147483648), 2147483647, xa_ib 4 c 0)), (2, (0, 0, (-2147483648), 2147483647, xa_ib 4 b (xa_ib 6 1 a))), (0, (2, 60, 0, 0, 0))] [] M1
              refine hgo.2.1 24 _ [(4, (0, 0, 0, 10, a + 1)), (3, (0, 0, (-2147483648), 2147483647, xa_ib 4 c 0)), (2, (0, 0, (-2147483648), 2147483647, xa_ib 4 b (xa_ib 6 1 a))), (0, (2, 60, 0, 0, 0))] _ _ (xa_subI rfl rfl (fun _ _ _ _ => by omega) (xa_subI rfl rfl (fun _ _ _ _ => by omega) (xa_subI rfl rfl (fun _ _ _ _ => by omega) (xa_subR rfl xa_sub0)))) ?_
              exact ih (a + 1) (xa_ib 4 b (xa_ib 6 1 a)) (xa_ib 4 c 0) M1 (by omega) (by omega) hc (tw_b1 h1 c2 hb) hS (tw_bz h1 (fun h => by have q1 := h.1; have q2 := h.2; omega) hy) hT (by omega)
            · intro (c6 : 0 < (M1 75 a))
              show Q 24 [(4, (0, 0, 1, 11, a + 1)), (3, (0, 0, (-2147483648), 2147483647, xa_ib 4 c (xa_ib 6 1 a))), (2, (0, 0, (-2147483648), 2147483647, xa_ib 4 b (xa_ib 6 1 a))), (0, (2, 60, 0, 0, 0))] [] M1
              refine hgo.2.1 24 _ [(4, (0, 0, 0, 10, a + 1)), (3, (0, 0, (-2147483648), 2147483647, xa_ib 4 c (xa_ib 6 1 a))), (2, (0, 0, (-2147483648), 2147483647, xa_ib 4 b (xa_ib 6 1 a))), (0, (2, 60, 0, 0, 0))] _ _ (xa_subI rfl rfl (fun _ _ _ _ => by omega) (xa_subI rfl rfl (fun _ _ _ _ => by omega) (xa_subI rfl rfl (fun _ _ _ _ => by omega) (xa_subR rfl xa_sub0)))) ?_
              exact ih (a + 1) (xa_ib 4 b (xa_ib 6 1 a)) (xa_ib 4 c (xa_ib 6 1 a)) M1 (by omega) (by omega) hc (tw_b1 h1 c2 hb) hS (tw_b1 h1 ⟨by omega, by omega⟩ hy) hT (by omega)
  refine hgo.1 20 [24] 0 _ _ _ ?_
  show xa_C xm_I A h0 _ 227 [(2, 60, 0, 0, 0), (0, 0, (-1), (-1), (-1))] (xa_up M 60 21 0) _
  refine rz_fx (j := 227) (by decide) (xa_C_mok (xw_ct_findTurns (xm_Inv_cor (xm_cor_f (by omega) xm_cor_r) hI) (fun v1 M1 hv1 hc1 hT1 hF1 hM1 => ?_)))
  intro (zM1 : M1 60 20 = M 60 20)
  refine And.intro ?_ ?_
  · intro (c2 : 0 ≤ v1)
    show Q 24 [(4, (0, 0, 0, 0, 0)), (3, (0, 0, 0, 0, 0)), (2, (0, 0, 0, 0, 0)), (1, (0, 0, (-5), 0, v1)), (0, (2, 60, 0, 0, 0))] [] M1
    refine hgo.2.1 24 _ [(4, (0, 0, 0, 10, 0)), (3, (0, 0, (-2147483648), 2147483647, 0)), (2, (0, 0, (-2147483648), 2147483647, 0)), (0, (2, 60, 0, 0, 0))] _ _ (xa_subI rfl rfl (fun _ _ _ _ => by omega) (xa_subI rfl rfl (fun _ _ _ _ => by omega) (xa_subI rfl rfl (fun _ _ _ _ => by omega) (xa_subR rfl xa_sub0)))) ?_
    exact loop 11 0 0 0 M1 (by omega) (by omega) (xm_cor_t (xm_cor_f (by omega) xm_cor_r) (xw_to hc1)) rfl (fun v e => ⟨v1, M1, ⟨_, xm_cor_f (by omega) xm_cor_r, hF1⟩, Or.inr ⟨by omega, e⟩⟩) rfl (fun V e => by have e9 : v1 = 0 := (by omega); subst e9; exact ⟨M1, ⟨_, xm_cor_f (by omega) xm_cor_r, hF1⟩, e⟩) (by omega)
  · intro (c2 : v1 < 0)
    show post (some (0, 0, (-5), 0, v1)) M1
    exact k _ _ ⟨_, _, _, rfl, ⟨v1, M1, ⟨_, xm_cor_f (by omega) xm_cor_r, hF1⟩, Or.inl ⟨by omega, rfl⟩⟩, by show rz_c (0 ≤ (v1 : Int)) (M 60 20) (M1 60 20) (1); unfold rz_c; omega, by exact rw_no (by show ¬ 0 ≤ (v1 : Int); omega) (by show M1 60 20 = M 60 20; omega) (fun i i0 i1 => ((xw_74 hc1 i0 (by have b20 := xm_f20 hM; omega)).trans (xa_up_ne (by omega))))⟩ (xm_cor_t (xm_cor_f (by omega) xm_cor_r) (xw_to hc1))
theorem rw_p61 (A : Nat → Nat) (cmp : Bool) : iv_pair (rw_J A) A 61 232 [] cmp false := rw_armV (fun W b h as M hJ hM hInv hs hR hz => by
  obtain rfl := iv_sp0 hs
  have b0 := xm_f0 (xa_H_Mok hM)
  have b6 := xm_f6 (xa_H_Mok hM)
  have r1 : iv_num h 1 9 = M 60 0 := hR.1.1
  have r2 : iv_num h 1 10 = M 60 6 := hR.1.2.1
  have r3 : ∀ i, 0 ≤ i → i < 14 → iv_num h 2 i = M 61 i ∧ iv_num h 3 i = M 62 i ∧ iv_num h 5 i = M 64 i ∧ iv_num h 6 i = M 65 i ∧ iv_num h 4 i = M 63 i := hR.1.2.2.1
  have r4 : ∀ i, 0 ≤ i → i < 16 → iv_num h 7 i = M 66 i ∧ iv_num h 8 i = M 67 i := hR.1.2.2.2
  have hS := hR.2
  have hMk := xa_H_Mok hM
  have hT := tu_M_of hMk hInv
  have hr := xm_rng_I hMk hInv
  have hC0 : tu_C (iv_num h) M := ⟨r2, r4, fun w w0 w1 => ⟨(r3 w w0 w1).2.2.1, (r3 w w0 w1).2.2.2.2⟩⟩
  have hc := rw_61 (b := b) (A := A) (h0 := h) (d := 53) (M := iv_num h) (N0 := M)   (post := fun o M1 => ∃ lo hi n, o = some (0, 0, lo, hi, n) ∧ ((tw_61 M n ∧ ∀ (q : Nat) (j : Int), ¬ (12 ≤ q ∧ q ≤ 14) → ¬ (q = 48 ∨ q = 49) → M1 q j = iv_num h q j) ∧ rw_k (0 ≤ n) (iv_num h 48 1) (iv_num h 49) (M1 48 1) (M1 49) 1 (fun V => rw_s61 M V))) hT hC0 (fun lo hi n M1 x1 x2 _ x3 => ⟨lo, hi, n, rfl, ⟨x1, x2⟩, x3⟩)
  have hm := fun (h1 : g_H) => rw_m61 (A := A) (h0 := h1) (d := 55) (M := M)   (post := fun o M2 => (∃ lo hi n, o = some (0, 0, lo, hi, n) ∧ ((tw_61 M n ∧ xm_cor M M2) ∧ rw_k (0 ≤ n) (M 60 20) (M 74) (M2 60 20) (M2 74) 1 (fun V => rw_s61 M V))) ∧ xm_Inv M2) hInv (fun o M2 x1 x2 => by
    obtain ⟨lo, hi, n, rfl, x1, -, x3⟩ := x1
    exact ⟨⟨lo, hi, n, rfl, ⟨x1, x2⟩, x3⟩, xm_Inv_cor x2 hInv⟩)
  refine ⟨[(2, 0, 0, 0, 0)], [(2, 60, 0, 0, 0)], _, _, ⟨rfl, trivial⟩, ⟨rfl, trivial⟩, fun n n' M1 M2 g1 g2 => by
    obtain ⟨h1, z1⟩ := g1
    obtain ⟨h2, z2⟩ := g2
    have en : n = n' := tw_61_one hr h1.1 h2.1
    exact ⟨fun _ => en, fun x => h2.2 104 x (by unfold xm_scr; omega), fun x => h2.2 105 x (by unfold xm_scr; omega), tw_lmR hR h1.2 h2.2, rw_k1 z1 z2 (by rw [en]) (fun _ => by decide) (fun V V' hp s1 s2 i _ _ => by rw [rw_s61_one hr s1 s2]) hz⟩, hc, hm⟩)
/-- by how many turns the one has gone more -/
def rw_d (U D U' D' : Int) : Int := (U * D' - U' * D).tdiv (Int.gcd (U * D' - U' * D) (D * D') : Int)
def rw_s72 (N0 : xa_M) (a b : Int) (V : Int → Int) : Prop := (0 ≤ a ∧ a ≤ 9) ∧ (0 ≤ b ∧ b ≤ 9) ∧ ∃ N, tw_F N0 (-1) 0 N ∧ N 77 a = 1 ∧ N 77 b = 1 ∧ V = rw_v [rw_d (N 75 a) (N 76 a) (N 75 b) (N 76 b)]
theorem rw_s72_one {N0 : xa_M} {a b : Int} {V V' : Int → Int} (hr : xm_rng N0) (h : rw_s72 N0 a b V) (h' : rw_s72 N0 a b V') : V = V' := by
  obtain ⟨ha, hb, N, hF, n1, n2, rfl⟩ := h
  obtain ⟨-, -, N', hF', -, -, rfl⟩ := h'
  obtain ⟨-, hag⟩ := tw_F_det hr hF hF'
  obtain ⟨-, h7⟩ := hag (by decide)
  obtain ⟨-, -, k1⟩ := h7 a ha.1 (by omega)
  obtain ⟨-, -, k2⟩ := h7 b hb.1 (by omega)
  rw [(k1 n1).1, (k1 n1).2, (k2 n2).1, (k2 n2).2]
theorem rw_72 {b : Bool} {A : Nat → Nat} {h0 : g_H} {d : Nat} {M : xa_M} {post : Option xa_V → xa_M → Prop} {l1 u1 l2 u2 x1 x2 : Int} {N0 : xa_M} (hM0 : tu_M N0) (hC0 : tu_C M N0) (k : ∀ (lo hi v : Int) (M1 : xa_M), tw_72 N0 x1 x2 v → (∀ (q : Nat) (j : Int), ¬ (12 ≤ q ∧ q ≤ 14) → ¬ (q = 48 ∨ q = 49) → M1 q j = M q j) → rz_c (0 ≤ (v : Int)) (M 48 1) (M1 48 1) (1) → rw_k (0 ≤ v) (M 48 1) (M 49) (M1 48 1) (M1 49) 1 (fun V => rw_s72 N0 x1 x2 V) → post (some (0, 0, lo, hi, v)) M1) : xa_C (xl_I b) A h0 (d + 8) 72 [(2, 0, 0, 0, 0), (0, 0, l1, u1, x1), (0, 0, l2, u2, x2)] M post := by
  refine xa_C_arg [(2, 0, 0, 0, 0), (0, 0, (-2147483648), 2147483647, x1), (0, 0, (-2147483648), 2147483647, x2)] (xa_svR (xa_svI (fun _ _ _ _ => by omega) (xa_svI (fun _ _ _ _ => by omega) (xa_sv0)))) ?_
  refine xa_meth (Q0 := (12, 1, false, 0, 0, 11)) (by decide +kernel) ⟨rfl, rfl⟩ (full := s_c_72) rfl rfl ?_
  intro hM hv Q hgo
  refine hgo.1 84 [] 0 _ _ _ ?_
  show xa_C (xl_I b) A h0 _ 14 [(0, 0, (-2147483648), 2147483647, x1)] M _
  refine cx_14 ?_ ?_ ?_
  · intro (i1 : x1 < 0)
    show post (some (0, 0, (-1), (-1), (-1))) M
    exact k _ _ _ _ (tw_Pn (by omega)) (fun _ _ _ _ => rfl) (by unfold rz_c; omega) (rw_no (by show ¬ 0 ≤ ((-1) : Int); omega) (by omega) (fun _ _ _ => rfl))
  · intro (i2 : 0 ≤ x1) (i3 : 10 ≤ x1)
    show post (some (0, 0, (-1), (-1), (-1))) M
    exact k _ _ _ _ (tw_Pn (by omega)) (fun _ _ _ _ => rfl) (by unfold rz_c; omega) (rw_no (by show ¬ 0 ≤ ((-1) : Int); omega) (by omega) (fun _ _ _ => rfl))
  · intro (i4 : 0 ≤ x1) (i5 : x1 < 10)
    show xa_C (xl_I b) A h0 _ 14 [(0, 0, (-2147483648), 2147483647, x2)] M _
    refine cx_14 ?_ ?_ ?_
    · intro (i6 : x2 < 0)
      show post (some (0, 0, (-1), (-1), (-1))) M
      exact k _ _ _ _ (Or.inl ⟨by omega, rfl⟩) (fun _ _ _ _ => rfl) (by unfold rz_c; omega) (rw_no (by show ¬ 0 ≤ ((-1) : Int); omega) (by omega) (fun _ _ _ => rfl))
    · intro (i7 : 0 ≤ x2) (i8 : 10 ≤ x2)
      show post (some (0, 0, (-1), (-1), (-1))) M
      exact k _ _ _ _ (Or.inl ⟨by omega, rfl⟩) (fun _ _ _ _ => rfl) (by unfold rz_c; omega) (rw_no (by show ¬ 0 ≤ ((-1) : Int); omega) (by omega) (fun _ _ _ => rfl))
    · intro (i9 : 0 ≤ x2) (i10 : x2 < 10)
      show xa_C (xl_I b) A h0 _ 46 [(2, 0, 0, 0, 0), (0, 0, (-2147483648), 2147483647, x1)] M _
      refine cx_46t hM0 hC0 ?_
      intro v101 M102 (i11 : tu_S N0 x1 v101 M102) (i12 : tu_G M M102)
      refine And.intro ?_ ?_
      · intro (c13 : v101 = 0)
        rw [c13] at i11
        have ax := (tu_S0 i11).1
        show xa_C (xl_I b) A h0 _ 50 [(2, 12, 0, 0, 0), (0, 0, (-2147483648), 2147483647, x2)] M102 _
        refine cx_50_12 (show 0 ≤ x2 ∧ x2 < 10 by omega) ?_ ?_
        · intro (i14 : (M102 14 x2) = 0)
          show post (some (0, 0, (-2), (-2), (-2))) M102
          refine k _ _ _ _ (Or.inr ⟨by omega, tw_A_to i11 (fun N _ hR h7 h8 _ => ?_)⟩) (fun q j h1 h2 => i12 q j h1) (by have zi12 := i12 48 1 (by omega); unfold rz_c; omega) (rw_no (by have zi12 := i12 48 1 (by omega); show ¬ 0 ≤ ((-2) : Int); omega) (by have zi12 := i12 48 1 (by omega); omega) (fun i _ _ => i12 49 i (by omega)))
          have z := tu_z hR (show 0 ≤ x2 by omega) (by omega)
          exact Or.inl ⟨by omega, rfl⟩
        · intro (i15 : ¬ (M102 14 x2) = 0)
          obtain ⟨ax, N9, t1, t2, t3, t4, t5, t6, t7⟩ := tu_S0 i11
          show xa_C (xl_I b) A h0 _ 69 [(2, 12, 0, 0, 0), (0, 0, (-2147483648), 2147483647, x1)] M102 _
          refine cx_69t (show 0 ≤ x1 ∧ x1 < 10 by omega) t5 ?_
          intro r103 (i16 : (r103 = 1 ∧ tu_L M102 x1) ∨ (r103 = 0 ∧ ¬ tu_L M102 x1))
          refine And.intro ?_ ?_
          · intro (c17 : ¬ r103 = 0)
            show post (some (0, 0, (-5), (-5), (-5))) M102
            refine k _ _ _ _ (Or.inr ⟨by omega, tw_A_to i11 (fun N _ hR h7 h8 _ => ?_)⟩) (fun q j h1 h2 => i12 q j h1) (by have zi12 := i12 48 1 (by omega); unfold rz_c; omega) (rw_no (by have zi12 := i12 48 1 (by omega); show ¬ 0 ≤ ((-5) : Int); omega) (by have zi12 := i12 48 1 (by omega); omega) (fun i _ _ => i12 49 i (by omega)))
            obtain ⟨b7, b8⟩ := tu_at hR (show 0 ≤ x2 ∧ x2 < 10 by omega) i15
            rcases i16 with ⟨-, e⟩ | ⟨e, -⟩
            · exact Or.inr (Or.inl ⟨b7, Or.inl ((tw_Lc h8).mp e), rfl⟩)
            · exfalso
              omega
          · intro (c17 : r103 = 0)
            have nLa : ¬ tu_L M102 x1 := by
              rcases i16 with ⟨e, -⟩ | ⟨-, e⟩
              · omega
              · exact e
            show xa_C (xl_I b) A h0 _ 69 [(2, 12, 0, 0, 0), (0, 0, (-2147483648), 2147483647, x2)] M102 _
            refine cx_69t (show 0 ≤ x2 ∧ x2 < 10 by omega) (tu_pq t2 (by omega) (by omega)).1 ?_
            intro r104 (i18 : (r104 = 1 ∧ tu_L M102 x2) ∨ (r104 = 0 ∧ ¬ tu_L M102 x2))
            refine And.intro ?_ ?_
            · intro (c19 : r104 = 0)
              have nLb : ¬ tu_L M102 x2 := by
                rcases i18 with ⟨e, -⟩ | ⟨-, e⟩
                · omega
                · exact e
              have pb := (tu_pq t2 (show 0 ≤ x2 ∧ x2 < 10 by omega) i15).2
              have hw := tw_w nLa nLb t6.1 pb.1
              show xa_C (xl_I b) A h0 _ 54 [(2, 12, 0, 0, 0), (0, 0, (-2147483648), 2147483647, x1)] M102 _
              refine cx_54_12 (show 0 ≤ x1 ∧ x1 < 10 by omega) ?_
              show xa_C (xl_I b) A h0 _ 51 [(2, 12, 0, 0, 0), (0, 0, (-2147483648), 2147483647, x2)] M102 _
              refine cx_51_12 (show 0 ≤ x2 ∧ x2 < 10 by omega) ?_
              show xa_C (xl_I b) A h0 _ 54 [(2, 12, 0, 0, 0), (0, 0, (-2147483648), 2147483647, x2)] M102 _
              refine cx_54_12 (show 0 ≤ x2 ∧ x2 < 10 by omega) ?_
              show xa_C (xl_I b) A h0 _ 51 [(2, 12, 0, 0, 0), (0, 0, (-2147483648), 2147483647, x1)] M102 _
              refine cx_51_12 (show 0 ≤ x1 ∧ x1 < 10 by omega) ?_
              show xa_C (xl_I b) A h0 _ 51 [(2, 12, 0, 0, 0), (0, 0, (-2147483648), 2147483647, x1)] M102 _
              refine cx_51_12 (show 0 ≤ x1 ∧ x1 < 10 by omega) ?_
              show xa_C (xl_I b) A h0 _ 51 [(2, 12, 0, 0, 0), (0, 0, (-2147483648), 2147483647, x2)] M102 _
              refine cx_51_12 (show 0 ≤ x2 ∧ x2 < 10 by omega) ?_
              show xa_C (xl_I b) A h0 _ 55 [(1, 0, (-9223372036854775808), 9223372036854775807, xa_w64 ((xa_w64 ((M102 13 x1) * (M102 14 x2))) - (xa_w64 ((M102 13 x2) * (M102 14 x1))))), (1, 0, (-9223372036854775808), 9223372036854775807, xa_w64 ((M102 14 x1) * (M102 14 x2)))] M102 _
              refine cx_55y (by omega) (by omega) ?_
              intro g105 (i20 : g105 = (Int.gcd (xa_w64 ((xa_w64 ((M102 13 x1) * (M102 14 x2))) - (xa_w64 ((M102 13 x2) * (M102 14 x1))))) (xa_w64 ((M102 14 x1) * (M102 14 x2))) : Int)) (i21 : 1 ≤ g105) (i22 : g105 ≤ 9223372036854775807)
              show xa_C (xl_I b) A h0 _ 21 [(1, 0, (-9223372036854775808), 9223372036854775807, xa_w64 ((M102 14 x1) * (M102 14 x2))), (1, 0, 0, 9223372036854775807, g105)] M102 _
              refine cx_21t rfl (show 1 ≤ g105 ∧ g105 ≤ 9223372036854775807 by omega) ?_
              refine And.intro ?_ ?_
              · intro (c23 : ((xa_w64 ((M102 14 x1) * (M102 14 x2))).tdiv g105) ≤ 100000)
                show xa_C (xl_I b) A h0 _ 59 [(2, 48, 0, 0, 0)] M102 _
                refine cx_59_48 ?_
                show xa_C (xl_I b) A h0 _ 21 [(1, 0, (-9223372036854775808), 9223372036854775807, xa_w64 ((xa_w64 ((M102 13 x1) * (M102 14 x2))) - (xa_w64 ((M102 13 x2) * (M102 14 x1))))), (1, 0, 0, 9223372036854775807, g105)] (xa_up M102 48 1 0) _
                refine cx_21t rfl (show 1 ≤ g105 ∧ g105 ≤ 9223372036854775807 by omega) ?_
                show xa_C (xl_I b) A h0 _ 60 [(2, 48, 0, 0, 0), (1, 0, (-9223372036854775808), 9223372036854775807, (xa_w64 ((xa_w64 ((M102 13 x1) * (M102 14 x2))) - (xa_w64 ((M102 13 x2) * (M102 14 x1))))).tdiv g105)] (xa_up M102 48 1 0) _
                refine rw_60 (l := []) (by show (0 : Int) ≤ 0 ∧ 0 < 16; omega) xa_up_eq rw_T0 ?_
                intro M106 (i24 : ∀ (q : Nat) (j : Int), ¬ (q = 48 ∨ q = 49) → M106 q j = (xa_up M102 48 1 0) q j) (i25 : (0 : Int) ≤ M106 48 1) (zM106 : M106 48 1 = 0 + 1) (tM106 : rw_T (M106 49) [(xa_w64 ((xa_w64 ((M102 13 x1) * (M102 14 x2))) - (xa_w64 ((M102 13 x2) * (M102 14 x1))))).tdiv g105])
                show post (some (0, 0, (-2147483648), 2147483647, xa_w32 ((xa_w64 ((M102 14 x1) * (M102 14 x2))).tdiv g105))) M106
                refine k _ _ _ _ (Or.inr ⟨by omega, tw_A_to i11 (fun N _ hR h7 h8 _ => ?_)⟩) (fun q j h1 h2 => (i24 q j h2).trans ((xa_up_ne (by omega)).trans (i12 q j h1))) (by have zi12 := i12 48 1 (by omega); have rr := rz_td (x := xa_w64 ((M102 14 x1) * (M102 14 x2))) (g := g105) (by rw [hw.2.1]; have q5 := hw.2.2.2.1.1; omega) (by omega) (by omega); unfold rz_c; omega) (rw_yes (by have zi12 := i12 48 1 (by omega); have rr := rz_td (x := xa_w64 ((M102 14 x1) * (M102 14 x2))) (g := g105) (by rw [hw.2.1]; have q5 := hw.2.2.2.1.1; omega) (by omega) (by omega); show 0 ≤ (xa_w32 ((xa_w64 ((M102 14 x1) * (M102 14 x2))).tdiv g105) : Int); omega) (by have zi12 := i12 48 1 (by omega); have rr := rz_td (x := xa_w64 ((M102 14 x1) * (M102 14 x2))) (g := g105) (by rw [hw.2.1]; have q5 := hw.2.2.2.1.1; omega) (by omega) (by omega); omega) (V := rw_v [rw_d (N9 75 x1) (N9 76 x1) (N9 75 x2) (N9 76 x2)]) (fun i i0 i1 => by have q := tM106 i i0 i1; have b9 := tu_at t2 (show 0 ≤ x2 ∧ x2 < 10 by omega) i15; have e20 := i20; rw [hw.2.2.1, hw.2.1] at e20; rw [hw.2.2.1, e20, t4.1, t4.2, b9.2.1, b9.2.2] at q; exact q) ⟨ax, by omega, N9, ⟨N0, xm_cor_r, t1⟩, t3, (tu_at t2 (show 0 ≤ x2 ∧ x2 < 10 by omega) i15).1, rfl⟩)
                obtain ⟨b7, b8⟩ := tu_at hR (show 0 ≤ x2 ∧ x2 < 10 by omega) i15
                refine Or.inr (Or.inr ⟨b7, fun h => h.elim (fun e => nLa ((tw_Lc h8).mpr e)) (fun e => nLb ((tw_Lc b8).mpr e)), ?_⟩)
                rw [← h8.1, ← h8.2, ← b8.1, ← b8.2]
                rw [hw.2.2.1, hw.2.1] at i20
                rw [hw.2.1] at c23
                rw [hw.2.1]
                exact tw_y2 hw.2.2.2.1.1 i20 c23
              · intro (c23 : 100000 < ((xa_w64 ((M102 14 x1) * (M102 14 x2))).tdiv g105))
                show post (some (0, 0, (-6), (-6), (-6))) M102
                refine k _ _ _ _ (Or.inr ⟨by omega, tw_A_to i11 (fun N _ hR h7 h8 _ => ?_)⟩) (fun q j h1 h2 => i12 q j h1) (by have zi12 := i12 48 1 (by omega); unfold rz_c; omega) (rw_no (by have zi12 := i12 48 1 (by omega); show ¬ 0 ≤ ((-6) : Int); omega) (by have zi12 := i12 48 1 (by omega); omega) (fun i _ _ => i12 49 i (by omega)))
                obtain ⟨b7, b8⟩ := tu_at hR (show 0 ≤ x2 ∧ x2 < 10 by omega) i15
                refine Or.inr (Or.inr ⟨b7, fun h => h.elim (fun e => nLa ((tw_Lc h8).mpr e)) (fun e => nLb ((tw_Lc b8).mpr e)), ?_⟩)
                rw [← h8.1, ← h8.2, ← b8.1, ← b8.2]
                rw [hw.2.2.1, hw.2.1] at i20
                rw [hw.2.1] at c23
                exact tw_y6 i20 c23
            · intro (c19 : ¬ r104 = 0)
              show post (some (0, 0, (-5), (-5), (-5))) M102
              refine k _ _ _ _ (Or.inr ⟨by omega, tw_A_to i11 (fun N _ hR h7 h8 _ => ?_)⟩) (fun q j h1 h2 => i12 q j h1) (by have zi12 := i12 48 1 (by omega); unfold rz_c; omega) (rw_no (by have zi12 := i12 48 1 (by omega); show ¬ 0 ≤ ((-5) : Int); omega) (by have zi12 := i12 48 1 (by omega); omega) (fun i _ _ => i12 49 i (by omega)))
              obtain ⟨b7, b8⟩ := tu_at hR (show 0 ≤ x2 ∧ x2 < 10 by omega) i15
              rcases i18 with ⟨-, e⟩ | ⟨e, -⟩
              · exact Or.inr (Or.inl ⟨b7, Or.inr ((tw_Lc b8).mp e), rfl⟩)
              · exfalso
                omega
      · intro (c13 : ¬ v101 = 0)
        show post (some (0, 0, (-5), 0, v101)) M102
        exact k _ _ _ _ (Or.inr ⟨by omega, tw_A_of i11 (fun e => absurd e (by omega))⟩) (fun q j h1 h2 => i12 q j h1) (by have zi12 := i12 48 1 (by omega); have rr := rz_Sle i11; unfold rz_c; omega) (rw_no (by have zi12 := i12 48 1 (by omega); have rr := rz_Sle i11; show ¬ 0 ≤ (v101 : Int); omega) (by have zi12 := i12 48 1 (by omega); have rr := rz_Sle i11; omega) (fun i _ _ => i12 49 i (by omega)))
theorem rw_m72 {A : Nat → Nat} {h0 : g_H} {d : Nat} {M : xa_M} {post : Option xa_V → xa_M → Prop} {l1 u1 l2 u2 : Int} {a b : Int} (hI : xm_Inv M) (k : ∀ (o : Option xa_V) (M1 : xa_M), (∃ lo hi n, o = some (0, 0, lo, hi, n) ∧ tw_72 M a b n ∧ rz_c (0 ≤ (n : Int)) (M 60 20) (M1 60 20) (1) ∧ rw_k (0 ≤ n) (M 60 20) (M 74) (M1 60 20) (M1 74) 1 (fun V => rw_s72 M a b V)) → xm_cor M M1 → post o M1) : xa_C xm_I A h0 (d + 7) 274 [(2, 60, 0, 0, 0), (0, 0, l1, u1, a), (0, 0, l2, u2, b)] M post := by
  refine xa_C_arg [(2, 60, 0, 0, 0), (0, 0, (-2147483648), 2147483647, a), (0, 0, (-2147483648), 2147483647, b)] (xa_svR (xa_svI (fun _ _ _ _ => by omega) (xa_svI (fun _ _ _ _ => by omega) xa_sv0))) ?_
  refine xa_meth (Q0 := (10, 1, false, 0, 0, 12)) (by decide +kernel) ⟨rfl, rfl⟩ (full := s_c_274) rfl rfl ?_
  intro hM hv Q hgo
  refine hgo.1 89 [] 0 _ _ _ ?_
  show xa_C xm_I A h0 _ 215 [(0, 0, (-2147483648), 2147483647, a)] (xa_up M 60 21 0) _
  refine ct_isAxle ?_ ?_
  · intro (i1 : 0 ≤ a ∧ a ≤ 9)
    show xa_C xm_I A h0 _ 215 [(0, 0, (-2147483648), 2147483647, b)] (xa_up M 60 21 0) _
    refine ct_isAxle ?_ ?_
    · intro (i2 : 0 ≤ b ∧ b ≤ 9)
      show xa_C xm_I A h0 _ 227 [(2, 60, 0, 0, 0), (0, 0, (-1), (-1), (-1))] (xa_up M 60 21 0) _
      refine rz_fx (j := 227) (by decide) (xa_C_mok (xw_ct_findTurns (xm_Inv_cor (xm_cor_f (by omega) xm_cor_r) hI) (fun v3 M3 hv3 hc3 hT3 hF3 hM3 => ?_)))
      intro (zM3 : M3 60 20 = M 60 20)
      have hr0 := xm_rng_I hM hI
      have F3 : tw_F M (-1) v3 M3 := ⟨_, xm_cor_f (by omega) xm_cor_r, hF3⟩
      have t3a := xm_t77 hM3 a i1.1 (by omega)
      have t3b := xm_t77 hM3 b i2.1 (by omega)
      refine And.intro ?_ ?_
      · intro (c4 : 0 ≤ v3)
        refine And.intro (show 0 ≤ a ∧ a < 10 by omega) ?_
        refine And.intro ?_ ?_
        · intro (c5 : (M3 77 a) = 0)
          show post (some (0, 0, (-2), (-2), (-2))) M3
          exact k _ _ ⟨_, _, _, rfl, Or.inr ⟨i2, Or.inr ⟨i1, v3, M3, F3, Or.inr (Or.inl ⟨by omega, c5, rfl⟩)⟩⟩, by show rz_c (0 ≤ ((-2) : Int)) (M 60 20) (M3 60 20) (1); unfold rz_c; omega, by exact rw_no (by show ¬ 0 ≤ ((-2) : Int); omega) (by show M3 60 20 = M 60 20; omega) (fun i i0 i1 => ((xw_74 hc3 i0 (by have b20 := xm_f20 hM; omega)).trans (xa_up_ne (by omega))))⟩ (xm_cor_t (xm_cor_f (by omega) xm_cor_r) (xw_to hc3))
        · intro (c5 : ¬ (M3 77 a) = 0)
          refine And.intro (show 0 ≤ b ∧ b < 10 by omega) ?_
          refine And.intro ?_ ?_
          · intro (c6 : ¬ (M3 77 b) = 0)
            show xa_C xm_I A h0 _ 273 [(2, 60, 0, 0, 0), (0, 0, (-2147483648), 2147483647, a)] M3 _
            refine rz_fx (j := 273) (by decide) (xa_C_mok (xw_ct_fairStateF (xm_Inv_cor (xm_cor_t (xm_cor_f (by omega) xm_cor_r) (xw_to hc3)) hI) (by omega) (by omega) (fun v7 w7 M7 hc7 hT7 hF7 hw7 hv7 hs7 hM7 => ?_)))
            intro (zM7 : M7 60 20 = M3 60 20)
            have F7 : tw_F M (-1) w7 M7 := ⟨M3, xm_cor_t (xm_cor_f (by omega) xm_cor_r) (xw_to hc3), hF7⟩
            obtain ⟨d7, g7⟩ := tw_F_det hr0 F3 F7
            obtain ⟨-, g7⟩ := g7 (by omega)
            obtain ⟨-, a7, -⟩ := g7 a i1.1 (by omega)
            obtain ⟨-, b7, -⟩ := g7 b i2.1 (by omega)
            refine And.intro ?_ ?_
            · intro (c8 : v7 < 0)
              show post (some (0, 0, (-5), (-5), (-5))) M7
              exact k _ _ ⟨_, _, _, rfl, Or.inr ⟨i2, Or.inr ⟨i1, w7, M7, F7, Or.inr (Or.inr ⟨by omega, by omega, Or.inr (Or.inl ⟨by omega, Or.inl (tw_f5 (tw_s5 hs7 (by omega) (by omega)) c8), rfl⟩)⟩)⟩⟩, by show rz_c (0 ≤ ((-5) : Int)) (M 60 20) (M7 60 20) (1); unfold rz_c; omega, by exact rw_no (by show ¬ 0 ≤ ((-5) : Int); omega) (by show M7 60 20 = M 60 20; omega) (fun i i0 i1 => ((xw_74 hc7 i0 (by have b20 := xm_f20 hM; omega)).trans ((xw_74 hc3 i0 (by have b20 := xm_f20 hM; omega)).trans (xa_up_ne (by omega)))))⟩ (xm_cor_t (xm_cor_t (xm_cor_f (by omega) xm_cor_r) (xw_to hc3)) (xw_to hc7))
            · intro (c8 : 0 ≤ v7)
              show xa_C xm_I A h0 _ 273 [(2, 60, 0, 0, 0), (0, 0, (-2147483648), 2147483647, b)] M7 _
              refine rz_fx (j := 273) (by decide) (xa_C_mok (xw_ct_fairStateF (xm_Inv_cor (xm_cor_t (xm_cor_t (xm_cor_f (by omega) xm_cor_r) (xw_to hc3)) (xw_to hc7)) hI) (by omega) (by omega) (fun v9 w9 M9 hc9 hT9 hF9 hw9 hv9 hs9 hM9 => ?_)))
              intro (zM9 : M9 60 20 = M7 60 20)
              have F9 : tw_F M (-1) w9 M9 := ⟨M7, xm_cor_t (xm_cor_t (xm_cor_f (by omega) xm_cor_r) (xw_to hc3)) (xw_to hc7), hF9⟩
              obtain ⟨d9, g9⟩ := tw_F_det hr0 F3 F9
              obtain ⟨-, g9⟩ := g9 (by omega)
              obtain ⟨-, a9, -⟩ := g9 a i1.1 (by omega)
              obtain ⟨-, b9, -⟩ := g9 b i2.1 (by omega)
              have dt := xm_FT_det (xw_to hc7) (xm_rng_c (xm_cor_t (xm_cor_f (by omega) xm_cor_r) (xw_to hc3)) (xm_rng_I hM hI)) hF7 hF9
              have y3 : 0 ≤ v7 → 0 ≤ v9 → (M9 75 a = M7 75 a ∧ M9 76 a = M7 76 a) := fun z1 z2 => by
                have y1 := hv7 z1
                have y2 := hv9 z2
                have d3 := (dt.2 (by omega)).2 a (by omega) (by omega)
                exact d3.2.2 y1.2.1
              have w64 : 0 ≤ v7 → 0 ≤ v9 → (xa_w64 (M9 75 a * M9 76 b) = M9 75 a * M9 76 b ∧ xa_w64 (M9 75 b * M9 76 a) = M9 75 b * M9 76 a ∧ xa_w64 (M9 76 a * M9 76 b) = M9 76 a * M9 76 b ∧ xa_w64 (xa_w64 (M9 75 a * M9 76 b) - xa_w64 (M9 75 b * M9 76 a)) = M9 75 a * M9 76 b - M9 75 b * M9 76 a ∧ 1 ≤ M9 76 a * M9 76 b ∧ (-1000000000000000000 ≤ M9 75 a * M9 76 b ∧ M9 75 a * M9 76 b ≤ 1000000000000000000) ∧ (-1000000000000000000 ≤ M9 75 b * M9 76 a ∧ M9 75 b * M9 76 a ≤ 1000000000000000000)) := fun z1 z2 => by
                have y1 := hv7 z1
                have y2 := hv9 z2
                have y3 := y3 z1 z2
                have p1 := xm_mul9 (p := M9 75 a) (q := M9 76 b) (by omega) (by omega) (by omega) (by omega)
                have p2 := xm_mul9 (p := M9 75 b) (q := M9 76 a) (by omega) (by omega) (by omega) (by omega)
                have p3 := xm_mul9 (p := M9 76 a) (q := M9 76 b) (by omega) (by omega) (by omega) (by omega)
                have p4 := Int.mul_pos (show 0 < M9 76 a by omega) (show 0 < M9 76 b by omega)
                exact ⟨xa_w64_id (by omega) (by omega), xa_w64_id (by omega) (by omega), xa_w64_id (by omega) (by omega), by rw [xa_w64_id (n := M9 75 a * M9 76 b) (by omega) (by omega), xa_w64_id (n := M9 75 b * M9 76 a) (by omega) (by omega), xa_w64_id (by omega) (by omega)], by omega, p1, p2⟩
              refine And.intro ?_ ?_
              · intro (c10 : 0 ≤ v9)
                have nL : ¬ (tw_L M9 a ∨ tw_L M9 b) := by
                  obtain ⟨y1, y2⟩ := y3 c8 c10
                  have n7 := tw_f0 (tw_s5 hs7 (by omega) (by omega)) c8
                  have n9 := tw_f0 (tw_s5 hs9 (by omega) (by omega)) c10
                  unfold tw_L at n7 n9 ⊢
                  rw [y1, y2]
                  omega
                refine And.intro (show 0 ≤ a ∧ a < 10 by omega) ?_
                refine And.intro (show 0 ≤ b ∧ b < 10 by omega) ?_
                refine And.intro (show 0 ≤ b ∧ b < 10 by omega) ?_
                refine And.intro (show 0 ≤ a ∧ a < 10 by omega) ?_
                refine And.intro (show 0 ≤ a ∧ a < 10 by omega) ?_
                refine And.intro (show 0 ≤ b ∧ b < 10 by omega) ?_
                show xa_C xm_I A h0 _ 229 [(1, 0, (-9223372036854775808), 9223372036854775807, xa_w64 ((xa_w64 ((M9 75 a) * (M9 76 b))) - (xa_w64 ((M9 75 b) * (M9 76 a))))), (1, 0, (-9223372036854775808), 9223372036854775807, xa_w64 ((M9 76 a) * (M9 76 b)))] M9 _
                refine ct_gcd2 (by omega) (by omega) (fun g11 eg11 pg11 qg11 => ?_)
                refine And.intro ?_ ?_
                · intro (c12 : ((xa_w64 ((M9 76 a) * (M9 76 b))).tdiv g11) ≤ 100000)
                  show xa_C xm_I A h0 _ 231 [(2, 60, 0, 0, 0), (1, 0, (-9223372036854775808), 9223372036854775807, (xa_w64 ((xa_w64 ((M9 75 a) * (M9 76 b))) - (xa_w64 ((M9 75 b) * (M9 76 a))))).tdiv g11)] (xa_up M9 60 20 0) _
                  refine ct_tell (n := 0) (by first | rfl | (simp [xa_up]; done) | omega) (by omega) (by omega) ?_
                  show post (some (0, 0, (-2147483648), 2147483647, xa_w32 ((xa_w64 ((M9 76 a) * (M9 76 b))).tdiv g11))) (xa_up (xa_up (xa_up M9 60 20 0) 74 0 ((xa_w64 ((xa_w64 ((M9 75 a) * (M9 76 b))) - (xa_w64 ((M9 75 b) * (M9 76 a))))).tdiv g11)) 60 20 1)
                  obtain ⟨q1, q2, q3, q4, q5, -⟩ := w64 c8 c10
                  rw [q4, q3] at eg11
                  rw [q3] at c12
                  exact k _ _ ⟨_, _, _, rfl, Or.inr ⟨i2, Or.inr ⟨i1, w9, M9, F9, Or.inr (Or.inr ⟨by omega, by omega, Or.inr (Or.inr ⟨by omega, nL, by rw [q3]; exact tw_y2 q5 eg11 c12⟩)⟩)⟩⟩, by show rz_c (0 ≤ ((xa_w32 ((xa_w64 ((M9 76 a) * (M9 76 b))).tdiv g11)) : Int)) (M 60 20) (1) (1); have rr : 0 ≤ xa_w32 ((xa_w64 ((M9 76 a) * (M9 76 b))).tdiv g11) := (by rw [q3]; exact rz_td (by omega) (by rw [eg11]; exact Int.natCast_nonneg _) c12); unfold rz_c; omega, by exact rw_yes (by have rr : 0 ≤ xa_w32 ((xa_w64 ((M9 76 a) * (M9 76 b))).tdiv g11) := (by rw [q3]; exact rz_td (by omega) (by rw [eg11]; exact Int.natCast_nonneg _) c12); show 0 ≤ (xa_w32 ((xa_w64 ((M9 76 a) * (M9 76 b))).tdiv g11) : Int); omega) xa_up_eq (V := rw_v [rw_d (M9 75 a) (M9 76 a) (M9 75 b) (M9 76 b)]) (rw_1 (((xa_up_ne (by omega)).trans xa_up_eq).trans (by rw [q4, eg11]; rfl))) (by have e9 : w9 = 0 := (by omega); subst e9; exact ⟨i1, i2, M9, F9, by omega, by omega, rfl⟩)⟩ (xm_cor_f (by omega) (xm_cor_a rfl (xm_cor_f (by omega) (xm_cor_t (xm_cor_t (xm_cor_t (xm_cor_f (by omega) xm_cor_r) (xw_to hc3)) (xw_to hc7)) (xw_to hc9)))))
                · intro (c12 : 100000 < ((xa_w64 ((M9 76 a) * (M9 76 b))).tdiv g11))
                  show post (some (0, 0, (-6), (-6), (-6))) M9
                  obtain ⟨q1, q2, q3, q4, q5, -⟩ := w64 c8 c10
                  rw [q4, q3] at eg11
                  rw [q3] at c12
                  exact k _ _ ⟨_, _, _, rfl, Or.inr ⟨i2, Or.inr ⟨i1, w9, M9, F9, Or.inr (Or.inr ⟨by omega, by omega, Or.inr (Or.inr ⟨by omega, nL, tw_y6 eg11 c12⟩)⟩)⟩⟩, by show rz_c (0 ≤ ((-6) : Int)) (M 60 20) (M9 60 20) (1); unfold rz_c; omega, by exact rw_no (by show ¬ 0 ≤ ((-6) : Int); omega) (by show M9 60 20 = M 60 20; omega) (fun i i0 i1 => ((xw_74 hc9 i0 (by have b20 := xm_f20 hM; omega)).trans ((xw_74 hc7 i0 (by have b20 := xm_f20 hM; omega)).trans ((xw_74 hc3 i0 (by have b20 := xm_f20 hM; omega)).trans (xa_up_ne (by omega))))))⟩ (xm_cor_t (xm_cor_t (xm_cor_t (xm_cor_f (by omega) xm_cor_r) (xw_to hc3)) (xw_to hc7)) (xw_to hc9))
              · intro (c10 : v9 < 0)
                show post (some (0, 0, (-5), (-5), (-5))) M9
                exact k _ _ ⟨_, _, _, rfl, Or.inr ⟨i2, Or.inr ⟨i1, w9, M9, F9, Or.inr (Or.inr ⟨by omega, by omega, Or.inr (Or.inl ⟨by omega, Or.inr (tw_f5 (tw_s5 hs9 (by omega) (by omega)) c10), rfl⟩)⟩)⟩⟩, by show rz_c (0 ≤ ((-5) : Int)) (M 60 20) (M9 60 20) (1); unfold rz_c; omega, by exact rw_no (by show ¬ 0 ≤ ((-5) : Int); omega) (by show M9 60 20 = M 60 20; omega) (fun i i0 i1 => ((xw_74 hc9 i0 (by have b20 := xm_f20 hM; omega)).trans ((xw_74 hc7 i0 (by have b20 := xm_f20 hM; omega)).trans ((xw_74 hc3 i0 (by have b20 := xm_f20 hM; omega)).trans (xa_up_ne (by omega))))))⟩ (xm_cor_t (xm_cor_t (xm_cor_t (xm_cor_f (by omega) xm_cor_r) (xw_to hc3)) (xw_to hc7)) (xw_to hc9))
          · intro (c6 : (M3 77 b) = 0)
            show post (some (0, 0, (-2), (-2), (-2))) M3
            exact k _ _ ⟨_, _, _, rfl, Or.inr ⟨i2, Or.inr ⟨i1, v3, M3, F3, Or.inr (Or.inr ⟨by omega, by omega, Or.inl ⟨c6, rfl⟩⟩)⟩⟩, by show rz_c (0 ≤ ((-2) : Int)) (M 60 20) (M3 60 20) (1); unfold rz_c; omega, by exact rw_no (by show ¬ 0 ≤ ((-2) : Int); omega) (by show M3 60 20 = M 60 20; omega) (fun i i0 i1 => ((xw_74 hc3 i0 (by have b20 := xm_f20 hM; omega)).trans (xa_up_ne (by omega))))⟩ (xm_cor_t (xm_cor_f (by omega) xm_cor_r) (xw_to hc3))
      · intro (c4 : v3 < 0)
        show post (some (0, 0, (-5), 0, v3)) M3
        exact k _ _ ⟨_, _, _, rfl, Or.inr ⟨i2, Or.inr ⟨i1, v3, M3, F3, Or.inl ⟨by omega, rfl⟩⟩⟩, by show rz_c (0 ≤ (v3 : Int)) (M 60 20) (M3 60 20) (1); unfold rz_c; omega, by exact rw_no (by show ¬ 0 ≤ (v3 : Int); omega) (by show M3 60 20 = M 60 20; omega) (fun i i0 i1 => ((xw_74 hc3 i0 (by have b20 := xm_f20 hM; omega)).trans (xa_up_ne (by omega))))⟩ (xm_cor_t (xm_cor_f (by omega) xm_cor_r) (xw_to hc3))
    · intro (i2 : ¬ (0 ≤ b ∧ b ≤ 9))
      show post (some (0, 0, (-1), (-1), (-1))) (xa_up M 60 21 0)
      exact k _ _ ⟨_, _, _, rfl, Or.inl ⟨i2, rfl⟩, by show rz_c (0 ≤ ((-1) : Int)) (M 60 20) (M 60 20) (1); unfold rz_c; omega, by exact rw_no (by show ¬ 0 ≤ ((-1) : Int); omega) (by show M 60 20 = M 60 20; omega) (fun i _ _ => xa_up_ne (by omega))⟩ (xm_cor_f (by omega) xm_cor_r)
  · intro (i1 : ¬ (0 ≤ a ∧ a ≤ 9))
    show post (some (0, 0, (-1), (-1), (-1))) (xa_up M 60 21 0)
    exact k _ _ ⟨_, _, _, rfl, tw_Pn i1, by show rz_c (0 ≤ ((-1) : Int)) (M 60 20) (M 60 20) (1); unfold rz_c; omega, by exact rw_no (by show ¬ 0 ≤ ((-1) : Int); omega) (by show M 60 20 = M 60 20; omega) (fun i _ _ => xa_up_ne (by omega))⟩ (xm_cor_f (by omega) xm_cor_r)
theorem rw_p72 (A : Nat → Nat) (cmp : Bool) : iv_pair (rw_J A) A 72 274 [0, 0] cmp false := rw_armV (fun W b h as M hJ hM hInv hs hR hz => by
  obtain ⟨m1, ys, rfl, -, hs⟩ := iv_spc hs
  obtain ⟨m2, ys, rfl, -, hs⟩ := iv_spc hs
  obtain rfl := iv_sp0 hs
  have b0 := xm_f0 (xa_H_Mok hM)
  have b6 := xm_f6 (xa_H_Mok hM)
  have r1 : iv_num h 1 9 = M 60 0 := hR.1.1
  have r2 : iv_num h 1 10 = M 60 6 := hR.1.2.1
  have r3 : ∀ i, 0 ≤ i → i < 14 → iv_num h 2 i = M 61 i ∧ iv_num h 3 i = M 62 i ∧ iv_num h 5 i = M 64 i ∧ iv_num h 6 i = M 65 i ∧ iv_num h 4 i = M 63 i := hR.1.2.2.1
  have r4 : ∀ i, 0 ≤ i → i < 16 → iv_num h 7 i = M 66 i ∧ iv_num h 8 i = M 67 i := hR.1.2.2.2
  have hS := hR.2
  have hMk := xa_H_Mok hM
  have hT := tu_M_of hMk hInv
  have hr := xm_rng_I hMk hInv
  have hC0 : tu_C (iv_num h) M := ⟨r2, r4, fun w w0 w1 => ⟨(r3 w w0 w1).2.2.1, (r3 w w0 w1).2.2.2.2⟩⟩
  have hc := rw_72 (b := b) (A := A) (h0 := h) (d := 52) (M := iv_num h) (N0 := M) (l1 := -2147483648) (u1 := 2147483647) (l2 := -2147483648) (u2 := 2147483647) (x1 := m1.toInt) (x2 := m2.toInt) (post := fun o M1 => ∃ lo hi n, o = some (0, 0, lo, hi, n) ∧ ((tw_72 M m1.toInt m2.toInt n ∧ ∀ (q : Nat) (j : Int), ¬ (12 ≤ q ∧ q ≤ 14) → ¬ (q = 48 ∨ q = 49) → M1 q j = iv_num h q j) ∧ rw_k (0 ≤ n) (iv_num h 48 1) (iv_num h 49) (M1 48 1) (M1 49) 1 (fun V => rw_s72 M m1.toInt m2.toInt V))) hT hC0 (fun lo hi n M1 x1 x2 _ x3 => ⟨lo, hi, n, rfl, ⟨x1, x2⟩, x3⟩)
  have hm := fun (h1 : g_H) => rw_m72 (A := A) (h0 := h1) (d := 53) (M := M) (l1 := -2147483648) (u1 := 2147483647) (l2 := -2147483648) (u2 := 2147483647) (a := m1.toInt) (b := m2.toInt) (post := fun o M2 => (∃ lo hi n, o = some (0, 0, lo, hi, n) ∧ ((tw_72 M m1.toInt m2.toInt n ∧ xm_cor M M2) ∧ rw_k (0 ≤ n) (M 60 20) (M 74) (M2 60 20) (M2 74) 1 (fun V => rw_s72 M m1.toInt m2.toInt V))) ∧ xm_Inv M2) hInv (fun o M2 x1 x2 => by
    obtain ⟨lo, hi, n, rfl, x1, -, x3⟩ := x1
    exact ⟨⟨lo, hi, n, rfl, ⟨x1, x2⟩, x3⟩, xm_Inv_cor x2 hInv⟩)
  refine ⟨[(2, 0, 0, 0, 0), (0, 0, -2147483648, 2147483647, m1.toInt), (0, 0, -2147483648, 2147483647, m2.toInt)], [(2, 60, 0, 0, 0), (0, 0, -2147483648, 2147483647, m1.toInt), (0, 0, -2147483648, 2147483647, m2.toInt)], _, _, ⟨rfl, iv_i m1, iv_i m2, trivial⟩, ⟨rfl, iv_i m1, iv_i m2, trivial⟩, fun n n' M1 M2 g1 g2 => by
    obtain ⟨h1, z1⟩ := g1
    obtain ⟨h2, z2⟩ := g2
    have en : n = n' := tw_72_one hr h1.1 h2.1
    exact ⟨fun _ => en, fun x => h2.2 104 x (by unfold xm_scr; omega), fun x => h2.2 105 x (by unfold xm_scr; omega), tw_lmR hR h1.2 h2.2, rw_k1 z1 z2 (by rw [en]) (fun _ => by decide) (fun V V' hp s1 s2 i _ _ => by rw [rw_s72_one hr s1 s2]) hz⟩, hc, hm⟩)
theorem rw_164_50 {A : Nat → Nat} {h0 : g_H} {d : Nat} {M : xa_M} {post : Option xa_V → xa_M → Prop} {l1 u1 l2 u2 l3 u3 x1 x2 x3 : Int} {N0 : xa_M} (hM0 : tu_M N0) (hC0 : tu_C M N0) (hB : tk_B 50 M N0) (k : ∀ (lo hi v : Int) (M1 : xa_M), tw_P ((0 ≤ x2 ∧ x2 < N0 60 11) ∧ (0 ≤ x3 ∧ x3 ≤ 2000)) N0 x1 v (tw_nT N0 x1 x2 x3) → (∀ (q : Nat) (j : Int), ¬ (12 ≤ q ∧ q ≤ 14) → ¬ (q = 48 ∨ q = 49) → M1 q j = M q j) → rz_c (0 ≤ (v : Int)) (M 48 1) (M1 48 1) (2) → rw_k (0 ≤ v) (M 48 1) (M 49) (M1 48 1) (M1 49) 2 (fun V => rw_t N0 x1 (fun _ => True) (fun N => rw_v [(tw_gp N0 x1 x2 N * x3).tdiv (Int.gcd (tw_gp N0 x1 x2 N * x3) (N 76 x1 * N0 71 x2) : Int), (N 76 x1 * N0 71 x2).tdiv (Int.gcd (tw_gp N0 x1 x2 N * x3) (N 76 x1 * N0 71 x2) : Int)]) V) → post (some (0, 0, lo, hi, v)) M1) : xa_C (xl_I false) A h0 (d + 9) 164 [(2, 0, 0, 0, 0), (0, 0, l1, u1, x1), (0, 0, l2, u2, x2), (0, 0, l3, u3, x3)] M post := by
  refine xa_C_arg [(2, 0, 0, 0, 0), (0, 0, (-2147483648), 2147483647, x1), (0, 0, (-2147483648), 2147483647, x2), (0, 0, (-2147483648), 2147483647, x3)] (xa_svR (xa_svI (fun _ _ _ _ => by omega) (xa_svI (fun _ _ _ _ => by omega) (xa_svI (fun _ _ _ _ => by omega) (xa_sv0))))) ?_
  refine xa_meth (Q0 := (7, 1, false, 0, 0, 11)) (by decide +kernel) ⟨rfl, rfl⟩ (full := s_c_164) rfl rfl ?_
  intro hM hv Q hgo
  refine hgo.1 45 [] 0 _ _ _ ?_
  show xa_C (xl_I _) A h0 _ 87 [(2, 50, 0, 0, 0), (0, 0, (-2147483648), 2147483647, x2)] M _
  refine cx_87_50 ?_ ?_ ?_
  · intro (i1 : x2 < 0)
    show post (some (0, 0, (-1), (-1), (-1))) M
    exact k _ _ _ _ (Or.inl ⟨by have e := hB.1; omega, rfl⟩) (fun _ _ _ _ => rfl) (by unfold rz_c; omega) (rw_no (by show ¬ 0 ≤ ((-1) : Int); omega) (by omega) (fun _ _ _ => rfl))
  · intro (i2 : 0 ≤ x2) (i3 : (M 50 4) ≤ x2)
    show post (some (0, 0, (-1), (-1), (-1))) M
    exact k _ _ _ _ (Or.inl ⟨by have e := hB.1; omega, rfl⟩) (fun _ _ _ _ => rfl) (by unfold rz_c; omega) (rw_no (by show ¬ 0 ≤ ((-1) : Int); omega) (by omega) (fun _ _ _ => rfl))
  · intro (i4 : 0 ≤ x2) (i5 : x2 < (M 50 4))
    show xa_C (xl_I _) A h0 _ 67 [(0, 0, (-2147483648), 2147483647, x3)] M _
    refine cx_67 ?_ ?_ ?_
    · intro (i6 : x3 < 0)
      show post (some (0, 0, (-1), (-1), (-1))) M
      exact k _ _ _ _ (Or.inl ⟨by have e := hB.1; omega, rfl⟩) (fun _ _ _ _ => rfl) (by unfold rz_c; omega) (rw_no (by show ¬ 0 ≤ ((-1) : Int); omega) (by omega) (fun _ _ _ => rfl))
    · intro (i7 : 0 ≤ x3) (i8 : 2000 < x3)
      show post (some (0, 0, (-1), (-1), (-1))) M
      exact k _ _ _ _ (Or.inl ⟨by have e := hB.1; omega, rfl⟩) (fun _ _ _ _ => rfl) (by unfold rz_c; omega) (rw_no (by show ¬ 0 ≤ ((-1) : Int); omega) (by omega) (fun _ _ _ => rfl))
    · intro (i9 : 0 ≤ x3) (i10 : x3 ≤ 2000)
      show xa_C (xl_I _) A h0 _ 68 [(2, 0, 0, 0, 0), (0, 0, (-2147483648), 2147483647, x1)] M _
      refine cx_68t hM0 hC0 ?_
      intro v101 M102 (i11 : tu_H N0 x1 v101 M102) (i12 : tu_G M M102)
      refine And.intro ?_ ?_
      · intro (c13 : v101 = 0)
        have nB4 := hB.1
        rw [c13] at i11
        obtain ⟨hs0, nL⟩ := tu_H0 i11
        obtain ⟨ax, N9, t1, t2, t3, t4, t5, t6, t7⟩ := tu_S0 hs0
        obtain ⟨⟨f1, f2⟩, f3, f4⟩ := hB.2.2 x2 (by omega) (by omega)
        have n11 := hB.2.1
        have e70 : M102 51 x2 = N0 70 x2 := (i12 51 x2 (by omega)).trans f1
        have e71 : M102 52 x2 = N0 71 x2 := (i12 52 x2 (by omega)).trans f2
        have nL2 : M102 14 x1 ≤ 1000000000 := by
          unfold tu_L at nL
          omega
        have w4 := tw_w4 (D := M102 14 x1) (l := M102 52 x2) (by omega) (by rw [e71]; exact f4)
        show xa_C (xl_I _) A h0 _ 165 [(2, 0, 0, 0, 0), (0, 0, (-2147483648), 2147483647, x1), (0, 0, (-2147483648), 2147483647, x2)] M102 _
        refine cx_165g_50 (by omega) (by omega) nL t6.1 e70 e71 (by omega) (by omega) ?_
        intro g103 (i14 : g103 = ((M102 13 x1).natAbs : Int) * N0 71 x2 - M102 14 x1 * N0 70 x2) (i15 : -2000000000000 ≤ g103 ∧ g103 ≤ 2000000000000)
        have w3 := tw_w3 i15 (show 0 ≤ x3 ∧ x3 ≤ 2000 by omega)
        show xa_C (xl_I _) A h0 _ 59 [(2, 48, 0, 0, 0)] M102 _
        refine cx_59_48 ?_
        show xa_C (xl_I _) A h0 _ 51 [(2, 12, 0, 0, 0), (0, 0, (-2147483648), 2147483647, x1)] (xa_up M102 48 1 0) _
        refine cx_51_12 (show 0 ≤ x1 ∧ x1 < 10 by omega) ?_
        show xa_C (xl_I _) A h0 _ 64 [(2, 50, 0, 0, 0), (0, 0, (-2147483648), 2147483647, x2)] (xa_up M102 48 1 0) _
        refine cx_64_50 (show 0 ≤ x2 ∧ x2 < 8 by omega) ?_
        show xa_C (xl_I _) A h0 _ 71 [(2, 48, 0, 0, 0), (1, 0, (-9223372036854775808), 9223372036854775807, xa_w64 (g103 * x3)), (1, 0, (-9223372036854775808), 9223372036854775807, xa_w64 ((M102 14 x1) * (M102 52 x2)))] (xa_up M102 48 1 0) _
        refine rw_71 (l := []) (by show (0 : Int) ≤ 0 ∧ 0 < 15; omega) xa_up_eq rw_T0 (by omega) (by omega) ?_
        intro M104 (i16 : ∀ (q : Nat) (j : Int), ¬ (q = 48 ∨ q = 49) → M104 q j = (xa_up M102 48 1 0) q j) (i17 : (0 : Int) ≤ M104 48 1) (zM104 : M104 48 1 = 0 + 2) (tM104 : rw_T (M104 49) [(xa_w64 (g103 * x3)).tdiv (Int.gcd (xa_w64 (g103 * x3)) (xa_w64 ((M102 14 x1) * (M102 52 x2))) : Int), (xa_w64 ((M102 14 x1) * (M102 52 x2))).tdiv (Int.gcd (xa_w64 (g103 * x3)) (xa_w64 ((M102 14 x1) * (M102 52 x2))) : Int)])
        show xa_C (xl_I _) A h0 _ 131 [(1, 0, (-9223372036854775808), 9223372036854775807, xa_w64 (g103 * x3))] M104 _
        refine cx_131 ?_ ?_ ?_
        · intro (i18 : ¬ (xa_w64 (g103 * x3)) = 0) (i19 : (xa_w64 (g103 * x3)) ≤ 0)
          show post (some (0, 0, 2, 2, 2)) M104
          refine k _ _ _ _ (Or.inr ⟨⟨by have e := hB.1; omega, by omega⟩, tw_A_to hs0 (fun N _ _ _ h8 _ => Or.inr ⟨fun e => nL ((tw_Lc h8).mpr e), ?_⟩)⟩) (fun q j h1 h2 => (i16 q j h2).trans ((xa_up_ne (by omega)).trans (i12 q j h1))) (by have zi12 := i12 48 1 (by omega); unfold rz_c; omega) (rw_yes (by have zi12 := i12 48 1 (by omega); show 0 ≤ (2 : Int); omega) (by have zi12 := i12 48 1 (by omega); omega) (V := rw_v [(tw_gp N0 x1 x2 N9 * x3).tdiv (Int.gcd (tw_gp N0 x1 x2 N9 * x3) (N9 76 x1 * N0 71 x2) : Int), (N9 76 x1 * N0 71 x2).tdiv (Int.gcd (tw_gp N0 x1 x2 N9 * x3) (N9 76 x1 * N0 71 x2) : Int)]) (fun i i0 i1 => by have q := tM104 i i0 i1; rw [w3.1, w4.1, i14, e71, t4.1, t4.2] at q; exact q) ⟨ax, N9, ⟨N0, xm_cor_r, t1⟩, t3, trivial, rfl⟩)
          have ge : tw_gp N0 x1 x2 N = g103 := by
            unfold tw_gp
            rw [i14, h8.1, h8.2]
          unfold tw_sg
          rw [ge]
          omega
        · intro (i20 : ¬ (xa_w64 (g103 * x3)) = 0) (i21 : 0 < (xa_w64 (g103 * x3)))
          show post (some (0, 0, 1, 1, 1)) M104
          refine k _ _ _ _ (Or.inr ⟨⟨by have e := hB.1; omega, by omega⟩, tw_A_to hs0 (fun N _ _ _ h8 _ => Or.inr ⟨fun e => nL ((tw_Lc h8).mpr e), ?_⟩)⟩) (fun q j h1 h2 => (i16 q j h2).trans ((xa_up_ne (by omega)).trans (i12 q j h1))) (by have zi12 := i12 48 1 (by omega); unfold rz_c; omega) (rw_yes (by have zi12 := i12 48 1 (by omega); show 0 ≤ (1 : Int); omega) (by have zi12 := i12 48 1 (by omega); omega) (V := rw_v [(tw_gp N0 x1 x2 N9 * x3).tdiv (Int.gcd (tw_gp N0 x1 x2 N9 * x3) (N9 76 x1 * N0 71 x2) : Int), (N9 76 x1 * N0 71 x2).tdiv (Int.gcd (tw_gp N0 x1 x2 N9 * x3) (N9 76 x1 * N0 71 x2) : Int)]) (fun i i0 i1 => by have q := tM104 i i0 i1; rw [w3.1, w4.1, i14, e71, t4.1, t4.2] at q; exact q) ⟨ax, N9, ⟨N0, xm_cor_r, t1⟩, t3, trivial, rfl⟩)
          have ge : tw_gp N0 x1 x2 N = g103 := by
            unfold tw_gp
            rw [i14, h8.1, h8.2]
          unfold tw_sg
          rw [ge]
          omega
        · intro (i22 : (xa_w64 (g103 * x3)) = 0)
          show post (some (0, 0, 0, 0, 0)) M104
          refine k _ _ _ _ (Or.inr ⟨⟨by have e := hB.1; omega, by omega⟩, tw_A_to hs0 (fun N _ _ _ h8 _ => Or.inr ⟨fun e => nL ((tw_Lc h8).mpr e), ?_⟩)⟩) (fun q j h1 h2 => (i16 q j h2).trans ((xa_up_ne (by omega)).trans (i12 q j h1))) (by have zi12 := i12 48 1 (by omega); unfold rz_c; omega) (rw_yes (by have zi12 := i12 48 1 (by omega); show 0 ≤ (0 : Int); omega) (by have zi12 := i12 48 1 (by omega); omega) (V := rw_v [(tw_gp N0 x1 x2 N9 * x3).tdiv (Int.gcd (tw_gp N0 x1 x2 N9 * x3) (N9 76 x1 * N0 71 x2) : Int), (N9 76 x1 * N0 71 x2).tdiv (Int.gcd (tw_gp N0 x1 x2 N9 * x3) (N9 76 x1 * N0 71 x2) : Int)]) (fun i i0 i1 => by have q := tM104 i i0 i1; rw [w3.1, w4.1, i14, e71, t4.1, t4.2] at q; exact q) ⟨ax, N9, ⟨N0, xm_cor_r, t1⟩, t3, trivial, rfl⟩)
          have ge : tw_gp N0 x1 x2 N = g103 := by
            unfold tw_gp
            rw [i14, h8.1, h8.2]
          unfold tw_sg
          rw [ge]
          omega
      · intro (c13 : ¬ v101 = 0)
        show post (some (0, 0, (-5), 0, v101)) M102
        exact k _ _ _ _ (Or.inr ⟨⟨by have e := hB.1; omega, by omega⟩, tw_Hn i11 (by omega) (fun N h => Or.inl ⟨h, rfl⟩)⟩) (fun q j h1 h2 => i12 q j h1) (by have zi12 := i12 48 1 (by omega); have rr := rz_Hle i11; unfold rz_c; omega) (rw_no (by have zi12 := i12 48 1 (by omega); have rr := rz_Hle i11; show ¬ 0 ≤ (v101 : Int); omega) (by have zi12 := i12 48 1 (by omega); have rr := rz_Hle i11; omega) (fun i _ _ => i12 49 i (by omega)))
theorem rw_164_55 {A : Nat → Nat} {h0 : g_H} {d : Nat} {M : xa_M} {post : Option xa_V → xa_M → Prop} {l1 u1 l2 u2 l3 u3 x1 x2 x3 : Int} {N0 : xa_M} (hM0 : tu_M N0) (hC0 : tu_C M N0) (hB : tk_B 55 M N0) (k : ∀ (lo hi v : Int) (M1 : xa_M), tw_P ((0 ≤ x2 ∧ x2 < N0 60 11) ∧ (0 ≤ x3 ∧ x3 ≤ 2000)) N0 x1 v (tw_nT N0 x1 x2 x3) → (∀ (q : Nat) (j : Int), ¬ (12 ≤ q ∧ q ≤ 14) → ¬ (q = 48 ∨ q = 49) → M1 q j = M q j) → rz_c (0 ≤ (v : Int)) (M 48 1) (M1 48 1) (2) → rw_k (0 ≤ v) (M 48 1) (M 49) (M1 48 1) (M1 49) 2 (fun V => rw_t N0 x1 (fun _ => True) (fun N => rw_v [(tw_gp N0 x1 x2 N * x3).tdiv (Int.gcd (tw_gp N0 x1 x2 N * x3) (N 76 x1 * N0 71 x2) : Int), (N 76 x1 * N0 71 x2).tdiv (Int.gcd (tw_gp N0 x1 x2 N * x3) (N 76 x1 * N0 71 x2) : Int)]) V) → post (some (0, 0, lo, hi, v)) M1) : xa_C (xl_I true) A h0 (d + 9) 164 [(2, 0, 0, 0, 0), (0, 0, l1, u1, x1), (0, 0, l2, u2, x2), (0, 0, l3, u3, x3)] M post := by
  refine xa_C_arg [(2, 0, 0, 0, 0), (0, 0, (-2147483648), 2147483647, x1), (0, 0, (-2147483648), 2147483647, x2), (0, 0, (-2147483648), 2147483647, x3)] (xa_svR (xa_svI (fun _ _ _ _ => by omega) (xa_svI (fun _ _ _ _ => by omega) (xa_svI (fun _ _ _ _ => by omega) (xa_sv0))))) ?_
  refine xa_meth (Q0 := (7, 1, false, 0, 0, 11)) (by decide +kernel) ⟨rfl, rfl⟩ (full := s_c_164) rfl rfl ?_
  intro hM hv Q hgo
  refine hgo.1 45 [] 0 _ _ _ ?_
  show xa_C (xl_I _) A h0 _ 87 [(2, 55, 0, 0, 0), (0, 0, (-2147483648), 2147483647, x2)] M _
  refine cx_87_55 ?_ ?_ ?_
  · intro (i1 : x2 < 0)
    show post (some (0, 0, (-1), (-1), (-1))) M
    exact k _ _ _ _ (Or.inl ⟨by have e := hB.1; omega, rfl⟩) (fun _ _ _ _ => rfl) (by unfold rz_c; omega) (rw_no (by show ¬ 0 ≤ ((-1) : Int); omega) (by omega) (fun _ _ _ => rfl))
  · intro (i2 : 0 ≤ x2) (i3 : (M 55 4) ≤ x2)
    show post (some (0, 0, (-1), (-1), (-1))) M
    exact k _ _ _ _ (Or.inl ⟨by have e := hB.1; omega, rfl⟩) (fun _ _ _ _ => rfl) (by unfold rz_c; omega) (rw_no (by show ¬ 0 ≤ ((-1) : Int); omega) (by omega) (fun _ _ _ => rfl))
  · intro (i4 : 0 ≤ x2) (i5 : x2 < (M 55 4))
    show xa_C (xl_I _) A h0 _ 67 [(0, 0, (-2147483648), 2147483647, x3)] M _
    refine cx_67 ?_ ?_ ?_
    · intro (i6 : x3 < 0)
      show post (some (0, 0, (-1), (-1), (-1))) M
      exact k _ _ _ _ (Or.inl ⟨by have e := hB.1; omega, rfl⟩) (fun _ _ _ _ => rfl) (by unfold rz_c; omega) (rw_no (by show ¬ 0 ≤ ((-1) : Int); omega) (by omega) (fun _ _ _ => rfl))
    · intro (i7 : 0 ≤ x3) (i8 : 2000 < x3)
      show post (some (0, 0, (-1), (-1), (-1))) M
      exact k _ _ _ _ (Or.inl ⟨by have e := hB.1; omega, rfl⟩) (fun _ _ _ _ => rfl) (by unfold rz_c; omega) (rw_no (by show ¬ 0 ≤ ((-1) : Int); omega) (by omega) (fun _ _ _ => rfl))
    · intro (i9 : 0 ≤ x3) (i10 : x3 ≤ 2000)
      show xa_C (xl_I _) A h0 _ 68 [(2, 0, 0, 0, 0), (0, 0, (-2147483648), 2147483647, x1)] M _
      refine cx_68t hM0 hC0 ?_
      intro v101 M102 (i11 : tu_H N0 x1 v101 M102) (i12 : tu_G M M102)
      refine And.intro ?_ ?_
      · intro (c13 : v101 = 0)
        have nB4 := hB.1
        rw [c13] at i11
        obtain ⟨hs0, nL⟩ := tu_H0 i11
        obtain ⟨ax, N9, t1, t2, t3, t4, t5, t6, t7⟩ := tu_S0 hs0
        obtain ⟨⟨f1, f2⟩, f3, f4⟩ := hB.2.2 x2 (by omega) (by omega)
        have n11 := hB.2.1
        have e70 : M102 56 x2 = N0 70 x2 := (i12 56 x2 (by omega)).trans f1
        have e71 : M102 57 x2 = N0 71 x2 := (i12 57 x2 (by omega)).trans f2
        have nL2 : M102 14 x1 ≤ 1000000000 := by
          unfold tu_L at nL
          omega
        have w4 := tw_w4 (D := M102 14 x1) (l := M102 57 x2) (by omega) (by rw [e71]; exact f4)
        show xa_C (xl_I _) A h0 _ 165 [(2, 0, 0, 0, 0), (0, 0, (-2147483648), 2147483647, x1), (0, 0, (-2147483648), 2147483647, x2)] M102 _
        refine cx_165g_55 (by omega) (by omega) nL t6.1 e70 e71 (by omega) (by omega) ?_
        intro g103 (i14 : g103 = ((M102 13 x1).natAbs : Int) * N0 71 x2 - M102 14 x1 * N0 70 x2) (i15 : -2000000000000 ≤ g103 ∧ g103 ≤ 2000000000000)
        have w3 := tw_w3 i15 (show 0 ≤ x3 ∧ x3 ≤ 2000 by omega)
        show xa_C (xl_I _) A h0 _ 59 [(2, 48, 0, 0, 0)] M102 _
        refine cx_59_48 ?_
        show xa_C (xl_I _) A h0 _ 51 [(2, 12, 0, 0, 0), (0, 0, (-2147483648), 2147483647, x1)] (xa_up M102 48 1 0) _
        refine cx_51_12 (show 0 ≤ x1 ∧ x1 < 10 by omega) ?_
        show xa_C (xl_I _) A h0 _ 64 [(2, 55, 0, 0, 0), (0, 0, (-2147483648), 2147483647, x2)] (xa_up M102 48 1 0) _
        refine cx_64_55 (show 0 ≤ x2 ∧ x2 < 8 by omega) ?_
        show xa_C (xl_I _) A h0 _ 71 [(2, 48, 0, 0, 0), (1, 0, (-9223372036854775808), 9223372036854775807, xa_w64 (g103 * x3)), (1, 0, (-9223372036854775808), 9223372036854775807, xa_w64 ((M102 14 x1) * (M102 57 x2)))] (xa_up M102 48 1 0) _
        refine rw_71 (l := []) (by show (0 : Int) ≤ 0 ∧ 0 < 15; omega) xa_up_eq rw_T0 (by omega) (by omega) ?_
        intro M104 (i16 : ∀ (q : Nat) (j : Int), ¬ (q = 48 ∨ q = 49) → M104 q j = (xa_up M102 48 1 0) q j) (i17 : (0 : Int) ≤ M104 48 1) (zM104 : M104 48 1 = 0 + 2) (tM104 : rw_T (M104 49) [(xa_w64 (g103 * x3)).tdiv (Int.gcd (xa_w64 (g103 * x3)) (xa_w64 ((M102 14 x1) * (M102 57 x2))) : Int), (xa_w64 ((M102 14 x1) * (M102 57 x2))).tdiv (Int.gcd (xa_w64 (g103 * x3)) (xa_w64 ((M102 14 x1) * (M102 57 x2))) : Int)])
        show xa_C (xl_I _) A h0 _ 131 [(1, 0, (-9223372036854775808), 9223372036854775807, xa_w64 (g103 * x3))] M104 _
        refine cx_131 ?_ ?_ ?_
        · intro (i18 : ¬ (xa_w64 (g103 * x3)) = 0) (i19 : (xa_w64 (g103 * x3)) ≤ 0)
          show post (some (0, 0, 2, 2, 2)) M104
          refine k _ _ _ _ (Or.inr ⟨⟨by have e := hB.1; omega, by omega⟩, tw_A_to hs0 (fun N _ _ _ h8 _ => Or.inr ⟨fun e => nL ((tw_Lc h8).mpr e), ?_⟩)⟩) (fun q j h1 h2 => (i16 q j h2).trans ((xa_up_ne (by omega)).trans (i12 q j h1))) (by have zi12 := i12 48 1 (by omega); unfold rz_c; omega) (rw_yes (by have zi12 := i12 48 1 (by omega); show 0 ≤ (2 : Int); omega) (by have zi12 := i12 48 1 (by omega); omega) (V := rw_v [(tw_gp N0 x1 x2 N9 * x3).tdiv (Int.gcd (tw_gp N0 x1 x2 N9 * x3) (N9 76 x1 * N0 71 x2) : Int), (N9 76 x1 * N0 71 x2).tdiv (Int.gcd (tw_gp N0 x1 x2 N9 * x3) (N9 76 x1 * N0 71 x2) : Int)]) (fun i i0 i1 => by have q := tM104 i i0 i1; rw [w3.1, w4.1, i14, e71, t4.1, t4.2] at q; exact q) ⟨ax, N9, ⟨N0, xm_cor_r, t1⟩, t3, trivial, rfl⟩)
          have ge : tw_gp N0 x1 x2 N = g103 := by
            unfold tw_gp
            rw [i14, h8.1, h8.2]
          unfold tw_sg
          rw [ge]
          omega
        · intro (i20 : ¬ (xa_w64 (g103 * x3)) = 0) (i21 : 0 < (xa_w64 (g103 * x3)))
          show post (some (0, 0, 1, 1, 1)) M104
          refine k _ _ _ _ (Or.inr ⟨⟨by have e := hB.1; omega, by omega⟩, tw_A_to hs0 (fun N _ _ _ h8 _ => Or.inr ⟨fun e => nL ((tw_Lc h8).mpr e), ?_⟩)⟩) (fun q j h1 h2 => (i16 q j h2).trans ((xa_up_ne (by omega)).trans (i12 q j h1))) (by have zi12 := i12 48 1 (by omega); unfold rz_c; omega) (rw_yes (by have zi12 := i12 48 1 (by omega); show 0 ≤ (1 : Int); omega) (by have zi12 := i12 48 1 (by omega); omega) (V := rw_v [(tw_gp N0 x1 x2 N9 * x3).tdiv (Int.gcd (tw_gp N0 x1 x2 N9 * x3) (N9 76 x1 * N0 71 x2) : Int), (N9 76 x1 * N0 71 x2).tdiv (Int.gcd (tw_gp N0 x1 x2 N9 * x3) (N9 76 x1 * N0 71 x2) : Int)]) (fun i i0 i1 => by have q := tM104 i i0 i1; rw [w3.1, w4.1, i14, e71, t4.1, t4.2] at q; exact q) ⟨ax, N9, ⟨N0, xm_cor_r, t1⟩, t3, trivial, rfl⟩)
          have ge : tw_gp N0 x1 x2 N = g103 := by
            unfold tw_gp
            rw [i14, h8.1, h8.2]
          unfold tw_sg
          rw [ge]
          omega
        · intro (i22 : (xa_w64 (g103 * x3)) = 0)
          show post (some (0, 0, 0, 0, 0)) M104
          refine k _ _ _ _ (Or.inr ⟨⟨by have e := hB.1; omega, by omega⟩, tw_A_to hs0 (fun N _ _ _ h8 _ => Or.inr ⟨fun e => nL ((tw_Lc h8).mpr e), ?_⟩)⟩) (fun q j h1 h2 => (i16 q j h2).trans ((xa_up_ne (by omega)).trans (i12 q j h1))) (by have zi12 := i12 48 1 (by omega); unfold rz_c; omega) (rw_yes (by have zi12 := i12 48 1 (by omega); show 0 ≤ (0 : Int); omega) (by have zi12 := i12 48 1 (by omega); omega) (V := rw_v [(tw_gp N0 x1 x2 N9 * x3).tdiv (Int.gcd (tw_gp N0 x1 x2 N9 * x3) (N9 76 x1 * N0 71 x2) : Int), (N9 76 x1 * N0 71 x2).tdiv (Int.gcd (tw_gp N0 x1 x2 N9 * x3) (N9 76 x1 * N0 71 x2) : Int)]) (fun i i0 i1 => by have q := tM104 i i0 i1; rw [w3.1, w4.1, i14, e71, t4.1, t4.2] at q; exact q) ⟨ax, N9, ⟨N0, xm_cor_r, t1⟩, t3, trivial, rfl⟩)
          have ge : tw_gp N0 x1 x2 N = g103 := by
            unfold tw_gp
            rw [i14, h8.1, h8.2]
          unfold tw_sg
          rw [ge]
          omega
      · intro (c13 : ¬ v101 = 0)
        show post (some (0, 0, (-5), 0, v101)) M102
        exact k _ _ _ _ (Or.inr ⟨⟨by have e := hB.1; omega, by omega⟩, tw_Hn i11 (by omega) (fun N h => Or.inl ⟨h, rfl⟩)⟩) (fun q j h1 h2 => i12 q j h1) (by have zi12 := i12 48 1 (by omega); have rr := rz_Hle i11; unfold rz_c; omega) (rw_no (by have zi12 := i12 48 1 (by omega); have rr := rz_Hle i11; show ¬ 0 ≤ (v101 : Int); omega) (by have zi12 := i12 48 1 (by omega); have rr := rz_Hle i11; omega) (fun i _ _ => i12 49 i (by omega)))
theorem rw_164 {b : Bool} {A : Nat → Nat} {h0 : g_H} {d : Nat} {M : xa_M} {post : Option xa_V → xa_M → Prop} {l1 u1 l2 u2 l3 u3 x1 x2 x3 : Int} {N0 : xa_M} (hM0 : tu_M N0) (hC0 : tu_C M N0) (hB : tk_B (bk_p b) M N0) (k : ∀ (lo hi v : Int) (M1 : xa_M), tw_P ((0 ≤ x2 ∧ x2 < N0 60 11) ∧ (0 ≤ x3 ∧ x3 ≤ 2000)) N0 x1 v (tw_nT N0 x1 x2 x3) → (∀ (q : Nat) (j : Int), ¬ (12 ≤ q ∧ q ≤ 14) → ¬ (q = 48 ∨ q = 49) → M1 q j = M q j) → rz_c (0 ≤ v) (M 48 1) (M1 48 1) (2) → rw_k (0 ≤ v) (M 48 1) (M 49) (M1 48 1) (M1 49) 2 (fun V => rw_t N0 x1 (fun _ => True) (fun N => rw_v [(tw_gp N0 x1 x2 N * x3).tdiv (Int.gcd (tw_gp N0 x1 x2 N * x3) (N 76 x1 * N0 71 x2) : Int), (N 76 x1 * N0 71 x2).tdiv (Int.gcd (tw_gp N0 x1 x2 N * x3) (N 76 x1 * N0 71 x2) : Int)]) V) → post (some (0, 0, lo, hi, v)) M1) : xa_C (xl_I b) A h0 (d + 9) 164 [(2, 0, 0, 0, 0), (0, 0, l1, u1, x1), (0, 0, l2, u2, x2), (0, 0, l3, u3, x3)] M post := by
  cases b
  · exact rw_164_50 hM0 hC0 hB k
  · exact rw_164_55 hM0 hC0 hB k
theorem rw_m164 {A : Nat → Nat} {h0 : g_H} {d : Nat} {M : xa_M} {post : Option xa_V → xa_M → Prop} {l1 u1 l2 u2 l3 u3 : Int} {a b c : Int} (hI : xm_Inv M) (k : ∀ (o : Option xa_V) (M1 : xa_M), (∃ lo hi n, o = some (0, 0, lo, hi, n) ∧ tw_P ((0 ≤ b ∧ b < M 60 11) ∧ (0 ≤ c ∧ c ≤ 2000)) M a n (tw_nT M a b c) ∧ rz_c (0 ≤ (n : Int)) (M 60 20) (M1 60 20) (2) ∧ rw_k (0 ≤ n) (M 60 20) (M 74) (M1 60 20) (M1 74) 2 (fun V => rw_t M a (fun _ => True) (fun N => rw_v [(tw_gp M a b N * c).tdiv (Int.gcd (tw_gp M a b N * c) (N 76 a * M 71 b) : Int), (N 76 a * M 71 b).tdiv (Int.gcd (tw_gp M a b N * c) (N 76 a * M 71 b) : Int)]) V)) → xm_cor M M1 → post o M1) : xa_C xm_I A h0 (d + 7) 275 [(2, 60, 0, 0, 0), (0, 0, l1, u1, a), (0, 0, l2, u2, b), (0, 0, l3, u3, c)] M post := by
  refine xa_C_arg [(2, 60, 0, 0, 0), (0, 0, (-2147483648), 2147483647, a), (0, 0, (-2147483648), 2147483647, b), (0, 0, (-2147483648), 2147483647, c)] (xa_svR (xa_svI (fun _ _ _ _ => by omega) (xa_svI (fun _ _ _ _ => by omega) (xa_svI (fun _ _ _ _ => by omega) xa_sv0)))) ?_
  refine xa_meth (Q0 := (5, 1, false, 0, 0, 12)) (by decide +kernel) ⟨rfl, rfl⟩ (full := s_c_275) rfl rfl ?_
  intro hM hv Q hgo
  have b11 := xm_f11 hM
  refine hgo.1 21 [33] 0 _ _ _ ?_
  show xa_C xm_I A h0 _ 215 [(0, 0, (-2147483648), 2147483647, a)] (xa_up M 60 21 0) _
  refine ct_isAxle ?_ ?_
  · intro (i1 : 0 ≤ a ∧ a ≤ 9)
    show xa_C xm_I A h0 _ 239 [(2, 60, 0, 0, 0), (0, 0, (-2147483648), 2147483647, b)] (xa_up M 60 21 0) _
    refine ct_isPeriod ?_ ?_
    · intro (i2 : 0 ≤ b ∧ b < (M 60 11))
      show xa_C xm_I A h0 _ 214 [(0, 0, (-2147483648), 2147483647, c), (0, 0, 0, 0, 0), (0, 0, 2000, 2000, 2000)] (xa_up M 60 21 0) _
      refine ct_in ?_ ?_
      · intro (i3 : 0 ≤ c ∧ c ≤ 2000)
        show Q 33 [(0, (2, 60, 0, 0, 0)), (1, (0, 0, (-2147483648), 2147483647, a)), (2, (0, 0, (-2147483648), 2147483647, b)), (3, (0, 0, (-2147483648), 2147483647, c))] [] (xa_up M 60 21 0)
        refine hgo.2.1 33 _ [(0, (2, 60, 0, 0, 0)), (1, (0, 0, 0, 9, a)), (2, (0, 0, 0, 7, b)), (3, (0, 0, 0, 2000, c))] _ _ (xa_subR rfl (xa_subI rfl rfl (fun _ _ _ _ => by omega) (xa_subI rfl rfl (fun _ _ _ _ => by omega) (xa_subI rfl rfl (fun _ _ _ _ => by omega) xa_sub0)))) ?_
        refine hgo.1 43 [] 33 _ _ _ ?_
        show xa_C xm_I A h0 _ 273 [(2, 60, 0, 0, 0), (0, 0, 0, 9, a)] (xa_up M 60 21 0) _
        refine rz_fx (j := 273) (by decide) (xa_C_mok (xw_ct_fairStateF (xm_Inv_cor (xm_cor_f (by omega) xm_cor_r) hI) (by omega) (by omega) (fun v104 w104 M104 hc104 hT104 hF104 hw104 hv104 hs104 hM104 => ?_)))
        intro (zM104 : M104 60 20 = M 60 20)
        refine And.intro ?_ ?_
        · intro (c105 : 0 ≤ v104)
          show xa_C xm_I A h0 _ 276 [(2, 60, 0, 0, 0), (0, 0, 0, 9, a), (0, 0, 0, 7, b)] M104 _
          refine ct_findGapF (by omega) (by omega) (by omega) (by omega) (by omega) (by omega) (by rw [xm_corq (xm_cor_t (xm_cor_f (by omega) xm_cor_r) (xw_to hc104)) 71 rfl]; exact (hI.2.2.1 _ (by omega) (by omega)).2) (fun u106 l106 eu106 el106 bu106 bl106 => ?_)
          have hc4 := xm_cor_t (xm_cor_f (M := M) (j := 21) (v := 0) (by omega) xm_cor_r) (xw_to hc104)
          have hf4 := tw_s5 hs104 (by omega) (by omega)
          have eg4 : u106 = tw_gp M a b M104 := by
            unfold tw_gp
            rw [eu106, xm_corq hc4 71 rfl b, xm_corq hc4 70 rfl b]
          have el4 : l106 = M104 76 a * M 71 b := by
            rw [el106, xm_corq hc4 71 rfl b]
          show xa_C xm_I A h0 _ 230 [(2, 60, 0, 0, 0), (1, 0, (-8000000000000000), 8000000000000000, u106 * c), (1, 0, 0, 4000000000000, l106)] (xa_up (xa_up (xa_up M104 60 50 u106) 60 51 l106) 60 20 0) _
          refine ct_tellPart (n := 0) (by first | rfl | (simp [xa_up]; done)) (by decide) (by decide) (by decide) (by omega) (fun g107 eg107 pg107 qg107 => ?_)
          refine And.intro ?_ ?_
          · intro (c108 : (u106 * c) ≤ 0)
            refine And.intro ?_ ?_
            · intro (c109 : 0 ≤ (u106 * c))
              show post (some (0, 0, 0, 0, 0)) (xa_up (xa_up (xa_up (xa_up (xa_up (xa_up (xa_up M104 60 50 u106) 60 51 l106) 60 20 0) 74 0 ((u106 * c).tdiv g107)) 60 20 1) 74 1 (l106.tdiv g107)) 60 20 2)
              exact k _ _ ⟨_, _, _, rfl, Or.inr ⟨⟨i2, i3⟩, Or.inr ⟨i1, w104, M104, ⟨_, xm_cor_f (by omega) xm_cor_r, hF104⟩, Or.inr (Or.inr ⟨by omega, by omega, Or.inr ⟨tw_f0 hf4 c105, by unfold tw_sg; rw [← eg4]; omega⟩⟩)⟩⟩, by show rz_c (0 ≤ (0 : Int)) (M 60 20) (2) (2); unfold rz_c; omega, by exact rw_yes (by show 0 ≤ (0 : Int); omega) xa_up_eq (V := rw_v [(tw_gp M a b M104 * c).tdiv (Int.gcd (tw_gp M a b M104 * c) (M104 76 a * M 71 b) : Int), (M104 76 a * M 71 b).tdiv (Int.gcd (tw_gp M a b M104 * c) (M104 76 a * M 71 b) : Int)]) (fun i i0 i1 => by rw [← eg4, ← el4, ← eg107]; rcases (show i = 0 ∨ i = 1 by omega) with rfl | rfl <;> first | rfl | (simp [xa_up, rw_v]; done)) (by have e9 : w104 = 0 := (by omega); subst e9; exact ⟨i1, M104, ⟨_, xm_cor_f (by omega) xm_cor_r, hF104⟩, by omega, trivial, rfl⟩)⟩ (xm_cor_f (by omega) (xm_cor_a rfl (xm_cor_f (by omega) (xm_cor_a rfl (xm_cor_f (by omega) (xm_cor_f (by omega) (xm_cor_f (by omega) (xm_cor_t (xm_cor_f (by omega) xm_cor_r) (xw_to hc104)))))))))
            · intro (c109 : (u106 * c) < 0)
              show post (some (0, 0, 2, 2, 2)) (xa_up (xa_up (xa_up (xa_up (xa_up (xa_up (xa_up M104 60 50 u106) 60 51 l106) 60 20 0) 74 0 ((u106 * c).tdiv g107)) 60 20 1) 74 1 (l106.tdiv g107)) 60 20 2)
              exact k _ _ ⟨_, _, _, rfl, Or.inr ⟨⟨i2, i3⟩, Or.inr ⟨i1, w104, M104, ⟨_, xm_cor_f (by omega) xm_cor_r, hF104⟩, Or.inr (Or.inr ⟨by omega, by omega, Or.inr ⟨tw_f0 hf4 c105, by unfold tw_sg; rw [← eg4]; omega⟩⟩)⟩⟩, by show rz_c (0 ≤ (2 : Int)) (M 60 20) (2) (2); unfold rz_c; omega, by exact rw_yes (by show 0 ≤ (2 : Int); omega) xa_up_eq (V := rw_v [(tw_gp M a b M104 * c).tdiv (Int.gcd (tw_gp M a b M104 * c) (M104 76 a * M 71 b) : Int), (M104 76 a * M 71 b).tdiv (Int.gcd (tw_gp M a b M104 * c) (M104 76 a * M 71 b) : Int)]) (fun i i0 i1 => by rw [← eg4, ← el4, ← eg107]; rcases (show i = 0 ∨ i = 1 by omega) with rfl | rfl <;> first | rfl | (simp [xa_up, rw_v]; done)) (by have e9 : w104 = 0 := (by omega); subst e9; exact ⟨i1, M104, ⟨_, xm_cor_f (by omega) xm_cor_r, hF104⟩, by omega, trivial, rfl⟩)⟩ (xm_cor_f (by omega) (xm_cor_a rfl (xm_cor_f (by omega) (xm_cor_a rfl (xm_cor_f (by omega) (xm_cor_f (by omega) (xm_cor_f (by omega) (xm_cor_t (xm_cor_f (by omega) xm_cor_r) (xw_to hc104)))))))))
          · intro (c108 : 0 < (u106 * c))
            show post (some (0, 0, 1, 1, 1)) (xa_up (xa_up (xa_up (xa_up (xa_up (xa_up (xa_up M104 60 50 u106) 60 51 l106) 60 20 0) 74 0 ((u106 * c).tdiv g107)) 60 20 1) 74 1 (l106.tdiv g107)) 60 20 2)
            exact k _ _ ⟨_, _, _, rfl, Or.inr ⟨⟨i2, i3⟩, Or.inr ⟨i1, w104, M104, ⟨_, xm_cor_f (by omega) xm_cor_r, hF104⟩, Or.inr (Or.inr ⟨by omega, by omega, Or.inr ⟨tw_f0 hf4 c105, by unfold tw_sg; rw [← eg4]; omega⟩⟩)⟩⟩, by show rz_c (0 ≤ (1 : Int)) (M 60 20) (2) (2); unfold rz_c; omega, by exact rw_yes (by show 0 ≤ (1 : Int); omega) xa_up_eq (V := rw_v [(tw_gp M a b M104 * c).tdiv (Int.gcd (tw_gp M a b M104 * c) (M104 76 a * M 71 b) : Int), (M104 76 a * M 71 b).tdiv (Int.gcd (tw_gp M a b M104 * c) (M104 76 a * M 71 b) : Int)]) (fun i i0 i1 => by rw [← eg4, ← el4, ← eg107]; rcases (show i = 0 ∨ i = 1 by omega) with rfl | rfl <;> first | rfl | (simp [xa_up, rw_v]; done)) (by have e9 : w104 = 0 := (by omega); subst e9; exact ⟨i1, M104, ⟨_, xm_cor_f (by omega) xm_cor_r, hF104⟩, by omega, trivial, rfl⟩)⟩ (xm_cor_f (by omega) (xm_cor_a rfl (xm_cor_f (by omega) (xm_cor_a rfl (xm_cor_f (by omega) (xm_cor_f (by omega) (xm_cor_f (by omega) (xm_cor_t (xm_cor_f (by omega) xm_cor_r) (xw_to hc104)))))))))
        · intro (c105 : v104 < 0)
          show post (some (0, 0, (-5), 0, v104)) M104
          exact k _ _ ⟨_, _, _, rfl, Or.inr ⟨⟨i2, i3⟩, Or.inr ⟨i1, w104, M104, ⟨_, xm_cor_f (by omega) xm_cor_r, hF104⟩, tw_s6 hs104 c105 (fun h => Or.inl ⟨h, rfl⟩)⟩⟩, by show rz_c (0 ≤ (v104 : Int)) (M 60 20) (M104 60 20) (2); unfold rz_c; omega, by exact rw_no (by show ¬ 0 ≤ (v104 : Int); omega) (by show M104 60 20 = M 60 20; omega) (fun i i0 i1 => ((xw_74 hc104 i0 (by have b20 := xm_f20 hM; omega)).trans (xa_up_ne (by omega))))⟩ (xm_cor_t (xm_cor_f (by omega) xm_cor_r) (xw_to hc104))
      · intro (i3 : ¬ (0 ≤ c ∧ c ≤ 2000))
        show post (some (0, 0, (-1), (-1), (-1))) (xa_up M 60 21 0)
        exact k _ _ ⟨_, _, _, rfl, Or.inl ⟨fun h => i3 h.2, rfl⟩, by show rz_c (0 ≤ ((-1) : Int)) (M 60 20) (M 60 20) (2); unfold rz_c; omega, by exact rw_no (by show ¬ 0 ≤ ((-1) : Int); omega) (by show M 60 20 = M 60 20; omega) (fun i _ _ => xa_up_ne (by omega))⟩ (xm_cor_f (by omega) xm_cor_r)
    · intro (i2 : ¬ (0 ≤ b ∧ b < (M 60 11)))
      show post (some (0, 0, (-1), (-1), (-1))) (xa_up M 60 21 0)
      exact k _ _ ⟨_, _, _, rfl, Or.inl ⟨fun h => i2 h.1, rfl⟩, by show rz_c (0 ≤ ((-1) : Int)) (M 60 20) (M 60 20) (2); unfold rz_c; omega, by exact rw_no (by show ¬ 0 ≤ ((-1) : Int); omega) (by show M 60 20 = M 60 20; omega) (fun i _ _ => xa_up_ne (by omega))⟩ (xm_cor_f (by omega) xm_cor_r)
  · intro (i1 : ¬ (0 ≤ a ∧ a ≤ 9))
    show post (some (0, 0, (-1), (-1), (-1))) (xa_up M 60 21 0)
    exact k _ _ ⟨_, _, _, rfl, tw_Pn i1, by show rz_c (0 ≤ ((-1) : Int)) (M 60 20) (M 60 20) (2); unfold rz_c; omega, by exact rw_no (by show ¬ 0 ≤ ((-1) : Int); omega) (by show M 60 20 = M 60 20; omega) (fun i _ _ => xa_up_ne (by omega))⟩ (xm_cor_f (by omega) xm_cor_r)
theorem rw_p164 (A : Nat → Nat) (cmp : Bool) : iv_pair (rw_J A) A 164 275 [0, 0, 0] cmp false := rw_armV (fun W b h as M hJ hM hInv hs hR hz => by
  obtain ⟨m1, ys, rfl, -, hs⟩ := iv_spc hs
  obtain ⟨m2, ys, rfl, -, hs⟩ := iv_spc hs
  obtain ⟨m3, ys, rfl, -, hs⟩ := iv_spc hs
  obtain rfl := iv_sp0 hs
  have b0 := xm_f0 (xa_H_Mok hM)
  have b6 := xm_f6 (xa_H_Mok hM)
  have r1 : iv_num h 1 9 = M 60 0 := hR.1.1
  have r2 : iv_num h 1 10 = M 60 6 := hR.1.2.1
  have r3 : ∀ i, 0 ≤ i → i < 14 → iv_num h 2 i = M 61 i ∧ iv_num h 3 i = M 62 i ∧ iv_num h 5 i = M 64 i ∧ iv_num h 6 i = M 65 i ∧ iv_num h 4 i = M 63 i := hR.1.2.2.1
  have r4 : ∀ i, 0 ≤ i → i < 16 → iv_num h 7 i = M 66 i ∧ iv_num h 8 i = M 67 i := hR.1.2.2.2
  have hS := hR.2
  have hMk := xa_H_Mok hM
  have hT := tu_M_of hMk hInv
  have hr := xm_rng_I hMk hInv
  have hC0 : tu_C (iv_num h) M := ⟨r2, r4, fun w w0 w1 => ⟨(r3 w w0 w1).2.2.1, (r3 w w0 w1).2.2.2.2⟩⟩
  obtain ⟨s1, s2, s3, s4⟩ := lm_Sx.mp hR.2.1
  have b11 := xm_f11 hMk
  have hB : tk_B (bk_p b) (iv_num h) M := ⟨s3, b11, fun p p0 p1 => by
    obtain ⟨g1, g2, -⟩ := s4 p p0 (by omega) p1
    have t1 := xm_t70 hMk p p0 (by omega)
    have t2 := xm_t71 hMk p p0 (by omega)
    have t3 := hInv.2.2.1 p p0 p1
    exact ⟨⟨g1, g2⟩, by omega, by omega⟩⟩
  have hb2 : ∀ p, 0 ≤ p → p < M 60 11 → 0 ≤ M 70 p ∧ 1 ≤ M 71 p := fun p p0 p1 => by
    have t3 := hB.2.2 p p0 p1
    omega
  have hc := rw_164 (b := b) (A := A) (h0 := h) (d := 51) (M := iv_num h) (N0 := M) (l1 := -2147483648) (u1 := 2147483647) (l2 := -2147483648) (u2 := 2147483647) (l3 := -2147483648) (u3 := 2147483647) (x1 := m1.toInt) (x2 := m2.toInt) (x3 := m3.toInt) (post := fun o M1 => ∃ lo hi n, o = some (0, 0, lo, hi, n) ∧ ((tw_P ((0 ≤ m2.toInt ∧ m2.toInt < M 60 11) ∧ (0 ≤ m3.toInt ∧ m3.toInt ≤ 2000)) M m1.toInt n (tw_nT M m1.toInt m2.toInt m3.toInt) ∧ ∀ (q : Nat) (j : Int), ¬ (12 ≤ q ∧ q ≤ 14) → ¬ (q = 48 ∨ q = 49) → M1 q j = iv_num h q j) ∧ rw_k (0 ≤ n) (iv_num h 48 1) (iv_num h 49) (M1 48 1) (M1 49) 2 (fun V => rw_t M m1.toInt (fun _ => True) (fun N => rw_v [(tw_gp M m1.toInt m2.toInt N * m3.toInt).tdiv (Int.gcd (tw_gp M m1.toInt m2.toInt N * m3.toInt) (N 76 m1.toInt * M 71 m2.toInt) : Int), (N 76 m1.toInt * M 71 m2.toInt).tdiv (Int.gcd (tw_gp M m1.toInt m2.toInt N * m3.toInt) (N 76 m1.toInt * M 71 m2.toInt) : Int)]) V))) hT hC0 hB (fun lo hi n M1 x1 x2 _ x3 => ⟨lo, hi, n, rfl, ⟨x1, x2⟩, x3⟩)
  have hm := fun (h1 : g_H) => rw_m164 (A := A) (h0 := h1) (d := 53) (M := M) (l1 := -2147483648) (u1 := 2147483647) (l2 := -2147483648) (u2 := 2147483647) (l3 := -2147483648) (u3 := 2147483647) (a := m1.toInt) (b := m2.toInt) (c := m3.toInt) (post := fun o M2 => (∃ lo hi n, o = some (0, 0, lo, hi, n) ∧ ((tw_P ((0 ≤ m2.toInt ∧ m2.toInt < M 60 11) ∧ (0 ≤ m3.toInt ∧ m3.toInt ≤ 2000)) M m1.toInt n (tw_nT M m1.toInt m2.toInt m3.toInt) ∧ xm_cor M M2) ∧ rw_k (0 ≤ n) (M 60 20) (M 74) (M2 60 20) (M2 74) 2 (fun V => rw_t M m1.toInt (fun _ => True) (fun N => rw_v [(tw_gp M m1.toInt m2.toInt N * m3.toInt).tdiv (Int.gcd (tw_gp M m1.toInt m2.toInt N * m3.toInt) (N 76 m1.toInt * M 71 m2.toInt) : Int), (N 76 m1.toInt * M 71 m2.toInt).tdiv (Int.gcd (tw_gp M m1.toInt m2.toInt N * m3.toInt) (N 76 m1.toInt * M 71 m2.toInt) : Int)]) V))) ∧ xm_Inv M2) hInv (fun o M2 x1 x2 => by
    obtain ⟨lo, hi, n, rfl, x1, -, x3⟩ := x1
    exact ⟨⟨lo, hi, n, rfl, ⟨x1, x2⟩, x3⟩, xm_Inv_cor x2 hInv⟩)
  refine ⟨[(2, 0, 0, 0, 0), (0, 0, -2147483648, 2147483647, m1.toInt), (0, 0, -2147483648, 2147483647, m2.toInt), (0, 0, -2147483648, 2147483647, m3.toInt)], [(2, 60, 0, 0, 0), (0, 0, -2147483648, 2147483647, m1.toInt), (0, 0, -2147483648, 2147483647, m2.toInt), (0, 0, -2147483648, 2147483647, m3.toInt)], _, _, ⟨rfl, iv_i m1, iv_i m2, iv_i m3, trivial⟩, ⟨rfl, iv_i m1, iv_i m2, iv_i m3, trivial⟩, fun n n' M1 M2 g1 g2 => by
    obtain ⟨h1, z1⟩ := g1
    obtain ⟨h2, z2⟩ := g2
    have en : n = n' := tw_P_one hr h1.1 h2.1 (fun _ _ _ _ _ e1 e2 t t' => tw_nT_one e1 e2 t t')
    exact ⟨fun _ => en, fun x => h2.2 104 x (by unfold xm_scr; omega), fun x => h2.2 105 x (by unfold xm_scr; omega), tw_lmR hR h1.2 h2.2, rw_k1 z1 z2 (by rw [en]) (fun _ => by decide) (fun V V' hp s1 s2 i _ _ => rw_t1 hr s1 s2 (fun N N' _ e1 e2 _ _ i => by unfold tw_gp; rw [e1, e2]) i) hz⟩, hc, hm⟩)
