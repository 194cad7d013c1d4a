-- trains, common, nearest, meets, slot of the model (made by wip/p24/xa/xm14.py)
set_option maxRecDepth 20000
theorem xm_mulp {p q a b : Int} (h1 : 1 ≤ p) (h2 : p ≤ a) (h3 : 1 ≤ q) (h4 : q ≤ b) : 1 ≤ p * q ∧ p * q ≤ a * b := by
  have := Int.mul_pos (show 0 < p by omega) (show 0 < q by omega)
  have h5 := Int.mul_le_mul h2 h4 (by omega) (by omega)
  omega
theorem xm_mulq {p q : Int} (h1 : 0 ≤ p) (h2 : p ≤ 400) (h3 : 0 ≤ q) (h4 : q ≤ 2000) : 0 ≤ p * q ∧ p * q ≤ 800000 := xa_mul_ok h1 h2 h3 h4
theorem ct_minL {A : Nat → Nat} {h0 : g_H} {d : Nat} {M : xa_M} {post : Option xa_V → xa_M → Prop} {I : xa_I} {l1 u1 l2 u2 a b : Int} (lo hi : Int) (h1 : lo ≤ l1) (h2 : lo ≤ l2) (h3 : u1 ≤ hi ∨ u2 ≤ hi) (k : ∀ r : Int, (lo ≤ r ∧ r ≤ hi) → (r ≤ a ∧ r ≤ b ∧ (r = a ∨ r = b)) → post (some (1, 0, lo, hi, r)) M) : xa_C I A h0 (d + 1) 26 [(1, 0, l1, u1, a), (1, 0, l2, u2, b)] M post := by
  refine xa_C_asm (fun hM hv => ?_)
  have va : l1 ≤ a ∧ a ≤ u1 := xa_v1 hv (show (1 : Nat) < 2 by decide)
  have vb : l2 ≤ b ∧ b ≤ u2 := xa_v2 hv (show (1 : Nat) < 2 by decide)
  refine xa_C_arg [(1, 0, (-9223372036854775808), 9223372036854775807, a), (1, 0, (-9223372036854775808), 9223372036854775807, b)] (xa_svL (fun _ _ _ _ => by omega) (xa_svL (fun _ _ _ _ => by omega) xa_sv0)) (xa_C_wk ?_)
  refine xa_meth (Q0 := (4, 3, false, 0, 0, 14)) (by decide +kernel) ⟨rfl, rfl⟩ (full := s_c_26) rfl rfl ?_
  intro hM hv Q hgo
  refine hgo.1 10 [] 0 _ _ _ ?_
  refine And.intro ?_ ?_
  · intro (c1 : b < a)
    show xa_wk post (some (1, 0, (-9223372036854775808), 9223372036854775807, b)) M
    exact xa_wkL b rfl (fun _ _ => by omega) (k _ (by omega) (by omega))
  · intro (c1 : a ≤ b)
    show xa_wk post (some (1, 0, (-9223372036854775808), 9223372036854775807, a)) M
    exact xa_wkL a rfl (fun _ _ => by omega) (k _ (by omega) (by omega))
theorem ct_gcd3 {A : Nat → Nat} {h0 : g_H} {d : Nat} {M : xa_M} {post : Option xa_V → xa_M → Prop} {I : xa_I} {l1 u1 l2 u2 x y : Int} (hx1 : 1 ≤ x) (hy1 : 1 ≤ y) (k : ∀ g : Int, g = (Int.gcd x y : Int) → 1 ≤ g → g ≤ y → g ≤ x → post (some (1, 0, 1, 9223372036854775807, g)) M) : xa_C I A h0 (d + 2) 229 [(1, 0, l1, u1, x), (1, 0, l2, u2, y)] M post :=
  ct_gcd2 (by omega) hy1 (fun g e g1 g2 => k g e g1 g2 (by
    have hd : ((Int.gcd x y : Nat) : Int) ∣ x := Int.gcd_dvd_left ..
    have := Int.le_of_dvd (by omega) hd
    omega))
theorem ct_fourth {A : Nat → Nat} {h0 : g_H} {d : Nat} {M : xa_M} {post : Option xa_V → xa_M → Prop} {l1 u1 l2 u2 l3 u3 l4 u4 : Int} {p a b c : Int} (hI : xm_Inv M) (hp0 : 0 ≤ p) (hp1 : p < M 60 11) (ha0 : 1 ≤ a) (ha1 : a ≤ 400) (hb0 : 1 ≤ b) (hb1 : b ≤ 400) (hc0 : 10 ≤ c) (hc1 : c ≤ 400) (k : ∀ r : Int, (0 ≤ r ∧ r ≤ 1000) → post (some (0, 0, 0, 1000, r)) M) : xa_C xm_I A h0 (d + 2) 258 [(2, 60, 0, 0, 0), (0, 0, l1, u1, p), (0, 0, l2, u2, a), (0, 0, l3, u3, b), (0, 0, l4, u4, c)] M post := by
  refine xa_C_asm (fun hM0 _ => ?_)
  have b110 := xm_f11 hM0
  refine xa_C_arg [(2, 60, 0, 0, 0), (0, 0, 0, 7, p), (0, 0, 1, 400, a), (0, 0, 1, 400, b), (0, 0, 10, 400, c)] (xa_svR (xa_svI (fun _ _ _ _ => by omega) (xa_svI (fun _ _ _ _ => by omega) (xa_svI (fun _ _ _ _ => by omega) (xa_svI (fun _ _ _ _ => by omega) xa_sv0))))) (xa_C_wk ?_)
  refine xa_meth (Q0 := (9, 1, false, 0, 0, 12)) (by decide +kernel) ⟨rfl, rfl⟩ (full := s_c_258) rfl rfl ?_
  intro hM hv Q hgo
  have b11 := xm_f11 hM
  have hp := hI.2.2.1 p hp0 hp1
  have t70 := xm_t70 hM p hp0 (by omega)
  have hc := xm_mulp (p := c) (q := M 70 p) (a := 400) (b := 2000) (by omega) (by omega) (by omega) (by omega)
  refine hgo.1 38 [] 0 _ _ _ ?_
  refine And.intro (show 0 < (c * (M 70 p)) by omega) ?_
  refine And.intro ?_ ?_
  · intro (c1 : ¬ (((a * b) * (M 71 p)) % (c * (M 70 p))) = 0)
    show xa_wk post (some (0, 0, 0, 0, 0)) M
    exact xa_wkI 0 rfl (fun _ _ => by omega) (k _ (by omega))
  · intro (c1 : (((a * b) * (M 71 p)) % (c * (M 70 p))) = 0)
    refine And.intro (show 0 < (c * (M 70 p)) by omega) ?_
    show xa_C xm_I A h0 _ 26 [(1, 0, 1000, 1000, 1000), (1, 0, 0, 320000000, ((a * b) * (M 71 p)) / (c * (M 70 p)))] M _
    refine ct_minL 0 1000 (by decide) (by decide) (by decide) (fun r2 br2 er2 => ?_)
    show xa_wk post (some (0, 0, 0, 1000, r2)) M
    exact xa_wkI r2 rfl (fun _ _ => by omega) (k _ (by omega))
theorem ct_isNearer {A : Nat → Nat} {h0 : g_H} {d : Nat} {M : xa_M} {post : Option xa_V → xa_M → Prop} {I : xa_I} {l0 u0 l1 u1 l2 u2 l3 u3 l4 u4 l5 u5 : Int} {a b c e f g : Int} (h1 : 0 ≤ a ∧ a ≤ 800000) (h2 : 10 ≤ b ∧ b ≤ 400) (h3 : 10 ≤ c ∧ c ≤ 400) (h4 : 0 ≤ e ∧ e ≤ 800000) (h5 : 0 ≤ f ∧ f ≤ 400) (h6 : 0 ≤ g ∧ g ≤ 400) (k : ∀ r : Int, (r = 0 ∨ r = 1) → post (some (0, 0, 0, 1, r)) M) : xa_C I A h0 (d + 1) 260 [(1, 0, l0, u0, a), (0, 0, l1, u1, b), (0, 0, l2, u2, c), (1, 0, l3, u3, e), (0, 0, l4, u4, f), (0, 0, l5, u5, g)] M post := by
  refine xa_C_arg [(1, 0, 0, 800000, a), (0, 0, 10, 400, b), (0, 0, 10, 400, c), (1, 0, 0, 800000, e), (0, 0, 0, 400, f), (0, 0, 0, 400, g)] (xa_svL (fun _ _ _ _ => by omega) (xa_svI (fun _ _ _ _ => by omega) (xa_svI (fun _ _ _ _ => by omega) (xa_svL (fun _ _ _ _ => by omega) (xa_svI (fun _ _ _ _ => by omega) (xa_svI (fun _ _ _ _ => by omega) xa_sv0)))))) (xa_C_wk ?_)
  refine xa_meth (Q0 := (12, 2, false, 0, 0, 12)) (by decide +kernel) ⟨rfl, rfl⟩ (full := s_c_260) rfl rfl ?_
  intro hM hv Q hgo
  refine hgo.1 34 [] 0 _ _ _ ?_
  refine And.intro ?_ ?_
  · intro (c1 : (a * g) = (e * c))
    refine And.intro ?_ ?_
    · intro (c2 : (b + c) = (f + g))
      refine And.intro ?_ ?_
      · intro (c3 : f ≤ b)
        show xa_wk post (some (0, 0, 0, 0, 0)) M
        exact xa_wkI 0 rfl (fun _ _ => by omega) (k 0 (by omega))
      · intro (c3 : b < f)
        show xa_wk post (some (0, 0, 1, 1, 1)) M
        exact xa_wkI 1 rfl (fun _ _ => by omega) (k 1 (by omega))
    · intro (c2 : ¬ (b + c) = (f + g))
      refine And.intro ?_ ?_
      · intro (c4 : (f + g) ≤ (b + c))
        show xa_wk post (some (0, 0, 0, 0, 0)) M
        exact xa_wkI 0 rfl (fun _ _ => by omega) (k 0 (by omega))
      · intro (c4 : (b + c) < (f + g))
        show xa_wk post (some (0, 0, 1, 1, 1)) M
        exact xa_wkI 1 rfl (fun _ _ => by omega) (k 1 (by omega))
  · intro (c1 : ¬ (a * g) = (e * c))
    refine And.intro ?_ ?_
    · intro (c5 : (e * c) ≤ (a * g))
      show xa_wk post (some (0, 0, 0, 0, 0)) M
      exact xa_wkI 0 rfl (fun _ _ => by omega) (k 0 (by omega))
    · intro (c5 : (a * g) < (e * c))
      show xa_wk post (some (0, 0, 1, 1, 1)) M
      exact xa_wkI 1 rfl (fun _ _ => by omega) (k 1 (by omega))
theorem ms_trains {A : Nat → Nat} {h0 : g_H} {d : Nat} {M : xa_M} {post : Option xa_V → xa_M → Prop} {l1 u1 l2 u2 : Int} {a b : Int} (hI : xm_Inv M) (k : ∀ (o : Option xa_V) (M1 : xa_M), xm_cor M M1 → post o M1) : xa_C xm_I A h0 (d + 3) 257 [(2, 60, 0, 0, 0), (0, 0, l1, u1, a), (0, 0, l2, u2, b)] M post := by
  refine xa_C_arg [(2, 60, 0, 0, 0), (0, 0, (-2147483648), 2147483647, a), (0, 0, (-2147483648), 2147483647, b)] (xa_svR (xa_svI (fun _ _ _ _ => by omega) (xa_svI (fun _ _ _ _ => by omega) xa_sv0))) ?_
  refine xa_meth (Q0 := (10, 1, false, 0, 0, 12)) (by decide +kernel) ⟨rfl, rfl⟩ (full := s_c_257) rfl rfl ?_
  intro hM hv Q hgo
  have b0 := xm_f0 hM
  have b6 := xm_f6 hM
  have b61 := xm_f61 hM
  have b11 := xm_f11 hM
  have b15 := xm_f15 hM
  have b16 := xm_f16 hM
  have hlh := hI.2.2.2.1
  have loop3 : ∀ (n : Nat) (x5 x3 x2 : Int) (M1 : xa_M), 0 ≤ x5 ∧ x5 ≤ 4 → 1 ≤ x2 ∧ x2 ≤ 2 → xm_cor M M1 → M1 60 20 ≤ x5 → 4 - x5 < (n : Int) → Q 249 [(5, (0, 0, 0, 4, x5)), (3, (0, 0, (-2147483648), 2147483647, x3)), (2, (0, 0, 1, 2, x2)), (0, (2, 60, 0, 0, 0))] [] M1 := by
    intro n
    induction n with
    | zero => intro x5 x3 x2 M1 b5 b2 hc h20 hms; omega
    | succ n ih3 =>
      intro x5 x3 x2 M1 b5 b2 hc h20 hms3
      refine hgo.2.2 _ _ _ _ (fun hM1 _ => ?_)
      have b20 := xm_f20 hM1
      refine hgo.1 26 [57, 79, 103, 249] 249 _ _ _ ?_
      refine And.intro ?_ ?_
      · intro (c1 : 4 ≤ x5)
        show post (some (0, 0, (-2147483648), 2147483647, x3)) M1
        exact k _ _ hc
      · intro (c1 : x5 < 4)
        refine And.intro ?_ ?_
        · intro (c2 : x3 ≤ 0)
          show post (some (0, 0, (-2147483648), 2147483647, x3)) M1
          exact k _ _ hc
        · intro (c2 : 0 < x3)
          refine And.intro ?_ ?_
          · intro (c3 : x2 = 2)
            refine And.intro (show 0 ≤ x5 ∧ x5 < 4 by omega) ?_
            show xa_C xm_I A h0 _ 231 [(2, 60, 0, 0, 0), (1, 0, (-2147483648), 2147483647, M1 91 x5)] M1 _
            refine ct_tell (n := M1 60 20) (by first | rfl | (simp [xa_up]; done) | omega) (by omega) (by omega) ?_
            show Q 249 [(5, (0, 0, 1, 5, x5 + 1)), (3, (0, 0, (-2147483648), 2147483647, x3)), (2, (0, 0, 1, 2, x2)), (0, (2, 60, 0, 0, 0))] [] (xa_up (xa_up M1 74 (M1 60 20) (M1 91 x5)) 60 20 ((M1 60 20) + 1))
            refine hgo.2.1 249 _ [(5, (0, 0, 0, 4, x5 + 1)), (3, (0, 0, (-2147483648), 2147483647, x3)), (2, (0, 0, 1, 2, x2)), (0, (2, 60, 0, 0, 0))] _ _ (xa_subI rfl rfl (fun _ _ _ _ => by omega) (xa_subI rfl rfl (fun _ _ _ _ => by omega) (xa_subI rfl rfl (fun _ _ _ _ => by omega) (xa_subR rfl xa_sub0)))) ?_
            exact ih3 (x5 + 1) x3 x2 (xa_up (xa_up M1 74 (M1 60 20) (M1 91 x5)) 60 20 ((M1 60 20) + 1)) (by omega) (by omega) (xm_cor_f (by omega) (xm_cor_a rfl hc)) (by first | omega | (simp [xa_up]; done) | (simp [xa_up]; omega)) (by omega)
          · intro (c3 : ¬ x2 = 2)
            refine And.intro ?_ ?_
            · intro (c4 : ¬ (x5 % 2) = 0)
              show Q 249 [(5, (0, 0, 1, 5, x5 + 1)), (3, (0, 0, (-2147483648), 2147483647, x3)), (2, (0, 0, 1, 2, x2)), (0, (2, 60, 0, 0, 0))] [] M1
              refine hgo.2.1 249 _ [(5, (0, 0, 0, 4, x5 + 1)), (3, (0, 0, (-2147483648), 2147483647, x3)), (2, (0, 0, 1, 2, x2)), (0, (2, 60, 0, 0, 0))] _ _ (xa_subI rfl rfl (fun _ _ _ _ => by omega) (xa_subI rfl rfl (fun _ _ _ _ => by omega) (xa_subI rfl rfl (fun _ _ _ _ => by omega) (xa_subR rfl xa_sub0)))) ?_
              exact ih3 (x5 + 1) x3 x2 M1 (by omega) (by omega) hc (by first | omega | (simp [xa_up]; done) | (simp [xa_up]; omega)) (by omega)
            · intro (c4 : (x5 % 2) = 0)
              refine And.intro (show 0 ≤ x5 ∧ x5 < 4 by omega) ?_
              show xa_C xm_I A h0 _ 231 [(2, 60, 0, 0, 0), (1, 0, (-2147483648), 2147483647, M1 91 x5)] M1 _
              refine ct_tell (n := M1 60 20) (by first | rfl | (simp [xa_up]; done) | omega) (by omega) (by omega) ?_
              show Q 249 [(5, (0, 0, 1, 5, x5 + 1)), (3, (0, 0, (-2147483648), 2147483647, x3)), (2, (0, 0, 1, 2, x2)), (0, (2, 60, 0, 0, 0))] [] (xa_up (xa_up M1 74 (M1 60 20) (M1 91 x5)) 60 20 ((M1 60 20) + 1))
              refine hgo.2.1 249 _ [(5, (0, 0, 0, 4, x5 + 1)), (3, (0, 0, (-2147483648), 2147483647, x3)), (2, (0, 0, 1, 2, x2)), (0, (2, 60, 0, 0, 0))] _ _ (xa_subI rfl rfl (fun _ _ _ _ => by omega) (xa_subI rfl rfl (fun _ _ _ _ => by omega) (xa_subI rfl rfl (fun _ _ _ _ => by omega) (xa_subR rfl xa_sub0)))) ?_
              exact ih3 (x5 + 1) x3 x2 (xa_up (xa_up M1 74 (M1 60 20) (M1 91 x5)) 60 20 ((M1 60 20) + 1)) (by omega) (by omega) (xm_cor_f (by omega) (xm_cor_a rfl hc)) (by first | omega | (simp [xa_up]; done) | (simp [xa_up]; omega)) (by omega)
  have loop0 : ∀ (n : Nat) (x5 x4 x3 x2 x1 : Int) (M1 : xa_M), 10 ≤ x5 ∧ x5 ≤ 401 → 1 ≤ x2 ∧ x2 ≤ 2 → 0 ≤ x1 ∧ x1 ≤ 7 → xm_cor M M1 → x1 < M 60 11 → 401 - x5 < (n : Int) → Q 57 [(5, (0, 0, 10, 401, x5)), (4, (0, 0, (-2147483648), 2147483647, x4)), (3, (0, 0, (-2147483648), 2147483647, x3)), (2, (0, 0, 1, 2, x2)), (1, (0, 0, 0, 7, x1)), (0, (2, 60, 0, 0, 0))] [] M1 := by
    intro n
    induction n with
    | zero => intro x5 x4 x3 x2 x1 M1 b5 b2 b1 hc hx1 hms; omega
    | succ n ih0 =>
      intro x5 x4 x3 x2 x1 M1 b5 b2 b1 hc hx1 hms0
      have e0 := xm_corf hc 0 (by omega)
      have e6 := xm_corf hc 6 (by omega)
      have e61 := xm_corf hc 61 (by omega)
      have e11 := xm_corf hc 11 (by omega)
      have e15 := xm_corf hc 15 (by omega)
      have e16 := xm_corf hc 16 (by omega)
      have loop1 : ∀ (n : Nat) (x6 x4 x3 : Int) (M1 : xa_M), 1 ≤ x6 ∧ x6 ≤ 401 → 10 ≤ x5 ∧ x5 ≤ 400 → 1 ≤ x2 ∧ x2 ≤ 2 → 0 ≤ x1 ∧ x1 ≤ 7 → xm_cor M M1 → 401 - x6 < (n : Int) → Q 79 [(6, (0, 0, 1, 401, x6)), (5, (0, 0, 10, 400, x5)), (4, (0, 0, (-2147483648), 2147483647, x4)), (3, (0, 0, (-2147483648), 2147483647, x3)), (2, (0, 0, 1, 2, x2)), (1, (0, 0, 0, 7, x1)), (0, (2, 60, 0, 0, 0))] [] M1 := by
        intro n
        induction n with
        | zero => intro x6 x4 x3 M1 b6 f5 f2 f1 hc hms; omega
        | succ n ih1 =>
          intro x6 x4 x3 M1 b6 f5 f2 f1 hc hms1
          have e0 := xm_corf hc 0 (by omega)
          have e6 := xm_corf hc 6 (by omega)
          have e61 := xm_corf hc 61 (by omega)
          have e11 := xm_corf hc 11 (by omega)
          have e15 := xm_corf hc 15 (by omega)
          have e16 := xm_corf hc 16 (by omega)
          have loop2 : ∀ (n : Nat) (x7 x4 x3 : Int) (M1 : xa_M), 10 ≤ x7 ∧ x7 ≤ 401 → 1 ≤ x6 ∧ x6 ≤ 400 → 10 ≤ x5 ∧ x5 ≤ 400 → 1 ≤ x2 ∧ x2 ≤ 2 → 0 ≤ x1 ∧ x1 ≤ 7 → xm_cor M M1 → 401 - x7 < (n : Int) → Q 103 [(7, (0, 0, 10, 401, x7)), (6, (0, 0, 1, 400, x6)), (5, (0, 0, 10, 400, x5)), (4, (0, 0, (-2147483648), 2147483647, x4)), (3, (0, 0, (-2147483648), 2147483647, x3)), (2, (0, 0, 1, 2, x2)), (1, (0, 0, 0, 7, x1)), (0, (2, 60, 0, 0, 0))] [] M1 := by
            intro n
            induction n with
            | zero => intro x7 x4 x3 M1 b7 f6 f5 f2 f1 hc hms; omega
            | succ n ih2 =>
              intro x7 x4 x3 M1 b7 f6 f5 f2 f1 hc hms2
              have e0 := xm_corf hc 0 (by omega)
              have e6 := xm_corf hc 6 (by omega)
              have e61 := xm_corf hc 61 (by omega)
              have e11 := xm_corf hc 11 (by omega)
              have e15 := xm_corf hc 15 (by omega)
              have e16 := xm_corf hc 16 (by omega)
              refine hgo.1 64 [57, 79, 103, 249] 103 _ _ _ ?_
              refine And.intro ?_ ?_
              · intro (c1 : (M1 60 16) < x7)
                show Q 79 [(6, (0, 0, 2, 401, x6 + 1)), (7, (0, 0, 10, 401, x7)), (5, (0, 0, 10, 400, x5)), (4, (0, 0, (-2147483648), 2147483647, x4)), (3, (0, 0, (-2147483648), 2147483647, x3)), (2, (0, 0, 1, 2, x2)), (1, (0, 0, 0, 7, x1)), (0, (2, 60, 0, 0, 0))] [] M1
                refine hgo.2.1 79 _ [(6, (0, 0, 1, 401, x6 + 1)), (5, (0, 0, 10, 400, x5)), (4, (0, 0, (-2147483648), 2147483647, x4)), (3, (0, 0, (-2147483648), 2147483647, x3)), (2, (0, 0, 1, 2, x2)), (1, (0, 0, 0, 7, x1)), (0, (2, 60, 0, 0, 0))] _ _ (xa_subI rfl rfl (fun _ _ _ _ => by omega) (xa_subI rfl rfl (fun _ _ _ _ => by omega) (xa_subI rfl rfl (fun _ _ _ _ => by omega) (xa_subI rfl rfl (fun _ _ _ _ => by omega) (xa_subI rfl rfl (fun _ _ _ _ => by omega) (xa_subI rfl rfl (fun _ _ _ _ => by omega) (xa_subR rfl xa_sub0))))))) ?_
                exact ih1 (x6 + 1) x4 x3 M1 (by omega) (by omega) (by omega) (by omega) hc (by omega)
              · intro (c1 : x7 ≤ (M1 60 16))
                show xa_C xm_I A h0 _ 258 [(2, 60, 0, 0, 0), (0, 0, 0, 7, x1), (0, 0, 10, 400, x5), (0, 0, 1, 400, x6), (0, 0, 10, 401, x7)] M1 _
                refine ct_fourth (xm_Inv_cor hc hI) (by omega) (by rw [xm_corf hc 11 (by omega)]; omega) (by omega) (by omega) (by omega) (by omega) (by omega) (by omega) (fun r2 br2 => ?_)
                refine And.intro ?_ ?_
                · intro (c3 : ¬ x2 = 1)
                  show xa_C xm_I A h0 _ 214 [(0, 0, 0, 1000, r2), (0, 0, 10, 401, x7), (0, 0, 10, 400, M1 60 16)] M1 _
                  refine ct_in ?_ ?_
                  · intro (i4 : x7 ≤ r2 ∧ r2 ≤ (M1 60 16))
                    refine And.intro ?_ ?_
                    · intro (c5 : (xa_w32 (x3 + 1)) ≤ 1)
                      show Q 103 [(7, (0, 0, 11, 402, x7 + 1)), (4, (0, 0, 21, 2201, ((x5 + x6) + x7) + r2)), (9, (0, 0, 21, 2201, ((x5 + x6) + x7) + r2)), (3, (0, 0, (-2147483648), 2147483647, xa_w32 (x3 + 1))), (8, (0, 0, 0, 1000, r2)), (6, (0, 0, 1, 400, x6)), (5, (0, 0, 10, 400, x5)), (2, (0, 0, 1, 2, x2)), (1, (0, 0, 0, 7, x1)), (0, (2, 60, 0, 0, 0))] [] (xa_up (xa_up (xa_up (xa_up M1 91 0 x5) 91 1 x6) 91 2 x7) 91 3 r2)
                      refine hgo.2.1 103 _ [(7, (0, 0, 10, 401, x7 + 1)), (6, (0, 0, 1, 400, x6)), (5, (0, 0, 10, 400, x5)), (4, (0, 0, (-2147483648), 2147483647, ((x5 + x6) + x7) + r2)), (3, (0, 0, (-2147483648), 2147483647, xa_w32 (x3 + 1))), (2, (0, 0, 1, 2, x2)), (1, (0, 0, 0, 7, x1)), (0, (2, 60, 0, 0, 0))] _ _ (xa_subI rfl rfl (fun _ _ _ _ => by omega) (xa_subI rfl rfl (fun _ _ _ _ => by omega) (xa_subI rfl rfl (fun _ _ _ _ => by omega) (xa_subI rfl rfl (fun _ _ _ _ => by omega) (xa_subI rfl rfl (fun _ _ _ _ => by omega) (xa_subI rfl rfl (fun _ _ _ _ => by omega) (xa_subI rfl rfl (fun _ _ _ _ => by omega) (xa_subR rfl xa_sub0)))))))) ?_
                      exact ih2 (x7 + 1) (((x5 + x6) + x7) + r2) (xa_w32 (x3 + 1)) (xa_up (xa_up (xa_up (xa_up M1 91 0 x5) 91 1 x6) 91 2 x7) 91 3 r2) (by omega) (by omega) (by omega) (by omega) (by omega) (xm_cor_a rfl (xm_cor_a rfl (xm_cor_a rfl (xm_cor_a rfl hc)))) (by omega)
                    · intro (c5 : 1 < (xa_w32 (x3 + 1)))
                      refine And.intro ?_ ?_
                      · intro (c6 : (((x5 + x6) + x7) + r2) < x4)
                        show Q 103 [(7, (0, 0, 11, 402, x7 + 1)), (4, (0, 0, 21, 2201, ((x5 + x6) + x7) + r2)), (9, (0, 0, 21, 2201, ((x5 + x6) + x7) + r2)), (3, (0, 0, (-2147483648), 2147483647, xa_w32 (x3 + 1))), (8, (0, 0, 0, 1000, r2)), (6, (0, 0, 1, 400, x6)), (5, (0, 0, 10, 400, x5)), (2, (0, 0, 1, 2, x2)), (1, (0, 0, 0, 7, x1)), (0, (2, 60, 0, 0, 0))] [] (xa_up (xa_up (xa_up (xa_up M1 91 0 x5) 91 1 x6) 91 2 x7) 91 3 r2)
                        refine hgo.2.1 103 _ [(7, (0, 0, 10, 401, x7 + 1)), (6, (0, 0, 1, 400, x6)), (5, (0, 0, 10, 400, x5)), (4, (0, 0, (-2147483648), 2147483647, ((x5 + x6) + x7) + r2)), (3, (0, 0, (-2147483648), 2147483647, xa_w32 (x3 + 1))), (2, (0, 0, 1, 2, x2)), (1, (0, 0, 0, 7, x1)), (0, (2, 60, 0, 0, 0))] _ _ (xa_subI rfl rfl (fun _ _ _ _ => by omega) (xa_subI rfl rfl (fun _ _ _ _ => by omega) (xa_subI rfl rfl (fun _ _ _ _ => by omega) (xa_subI rfl rfl (fun _ _ _ _ => by omega) (xa_subI rfl rfl (fun _ _ _ _ => by omega) (xa_subI rfl rfl (fun _ _ _ _ => by omega) (xa_subI rfl rfl (fun _ _ _ _ => by omega) (xa_subR rfl xa_sub0)))))))) ?_
                        exact ih2 (x7 + 1) (((x5 + x6) + x7) + r2) (xa_w32 (x3 + 1)) (xa_up (xa_up (xa_up (xa_up M1 91 0 x5) 91 1 x6) 91 2 x7) 91 3 r2) (by omega) (by omega) (by omega) (by omega) (by omega) (xm_cor_a rfl (xm_cor_a rfl (xm_cor_a rfl (xm_cor_a rfl hc)))) (by omega)
                      · intro (c6 : x4 ≤ (((x5 + x6) + x7) + r2))
                        show Q 103 [(7, (0, 0, 11, 402, x7 + 1)), (9, (0, 0, 21, 2201, ((x5 + x6) + x7) + r2)), (3, (0, 0, (-2147483648), 2147483647, xa_w32 (x3 + 1))), (8, (0, 0, 0, 1000, r2)), (6, (0, 0, 1, 400, x6)), (5, (0, 0, 10, 400, x5)), (4, (0, 0, (-2147483648), 2147483647, x4)), (2, (0, 0, 1, 2, x2)), (1, (0, 0, 0, 7, x1)), (0, (2, 60, 0, 0, 0))] [] M1
                        refine hgo.2.1 103 _ [(7, (0, 0, 10, 401, x7 + 1)), (6, (0, 0, 1, 400, x6)), (5, (0, 0, 10, 400, x5)), (4, (0, 0, (-2147483648), 2147483647, x4)), (3, (0, 0, (-2147483648), 2147483647, xa_w32 (x3 + 1))), (2, (0, 0, 1, 2, x2)), (1, (0, 0, 0, 7, x1)), (0, (2, 60, 0, 0, 0))] _ _ (xa_subI rfl rfl (fun _ _ _ _ => by omega) (xa_subI rfl rfl (fun _ _ _ _ => by omega) (xa_subI rfl rfl (fun _ _ _ _ => by omega) (xa_subI rfl rfl (fun _ _ _ _ => by omega) (xa_subI rfl rfl (fun _ _ _ _ => by omega) (xa_subI rfl rfl (fun _ _ _ _ => by omega) (xa_subI rfl rfl (fun _ _ _ _ => by omega) (xa_subR rfl xa_sub0)))))))) ?_
                        exact ih2 (x7 + 1) x4 (xa_w32 (x3 + 1)) M1 (by omega) (by omega) (by omega) (by omega) (by omega) hc (by omega)
                  · intro (i4 : ¬ (x7 ≤ r2 ∧ r2 ≤ (M1 60 16)))
                    show Q 103 [(7, (0, 0, 11, 402, x7 + 1)), (8, (0, 0, 0, 1000, r2)), (6, (0, 0, 1, 400, x6)), (5, (0, 0, 10, 400, x5)), (4, (0, 0, (-2147483648), 2147483647, x4)), (3, (0, 0, (-2147483648), 2147483647, x3)), (2, (0, 0, 1, 2, x2)), (1, (0, 0, 0, 7, x1)), (0, (2, 60, 0, 0, 0))] [] M1
                    refine hgo.2.1 103 _ [(7, (0, 0, 10, 401, x7 + 1)), (6, (0, 0, 1, 400, x6)), (5, (0, 0, 10, 400, x5)), (4, (0, 0, (-2147483648), 2147483647, x4)), (3, (0, 0, (-2147483648), 2147483647, x3)), (2, (0, 0, 1, 2, x2)), (1, (0, 0, 0, 7, x1)), (0, (2, 60, 0, 0, 0))] _ _ (xa_subI rfl rfl (fun _ _ _ _ => by omega) (xa_subI rfl rfl (fun _ _ _ _ => by omega) (xa_subI rfl rfl (fun _ _ _ _ => by omega) (xa_subI rfl rfl (fun _ _ _ _ => by omega) (xa_subI rfl rfl (fun _ _ _ _ => by omega) (xa_subI rfl rfl (fun _ _ _ _ => by omega) (xa_subI rfl rfl (fun _ _ _ _ => by omega) (xa_subR rfl xa_sub0)))))))) ?_
                    exact ih2 (x7 + 1) x4 x3 M1 (by omega) (by omega) (by omega) (by omega) (by omega) hc (by omega)
                · intro (c3 : x2 = 1)
                  refine And.intro ?_ ?_
                  · intro (c7 : r2 = 1)
                    refine And.intro ?_ ?_
                    · intro (c8 : (xa_w32 (x3 + 1)) ≤ 1)
                      show Q 103 [(7, (0, 0, 11, 402, x7 + 1)), (4, (0, 0, 21, 2201, ((x5 + x6) + x7) + r2)), (9, (0, 0, 21, 2201, ((x5 + x6) + x7) + r2)), (3, (0, 0, (-2147483648), 2147483647, xa_w32 (x3 + 1))), (8, (0, 0, 0, 1000, r2)), (6, (0, 0, 1, 400, x6)), (5, (0, 0, 10, 400, x5)), (2, (0, 0, 1, 2, x2)), (1, (0, 0, 0, 7, x1)), (0, (2, 60, 0, 0, 0))] [] (xa_up (xa_up (xa_up (xa_up M1 91 0 x5) 91 1 x6) 91 2 x7) 91 3 r2)
                      refine hgo.2.1 103 _ [(7, (0, 0, 10, 401, x7 + 1)), (6, (0, 0, 1, 400, x6)), (5, (0, 0, 10, 400, x5)), (4, (0, 0, (-2147483648), 2147483647, ((x5 + x6) + x7) + r2)), (3, (0, 0, (-2147483648), 2147483647, xa_w32 (x3 + 1))), (2, (0, 0, 1, 2, x2)), (1, (0, 0, 0, 7, x1)), (0, (2, 60, 0, 0, 0))] _ _ (xa_subI rfl rfl (fun _ _ _ _ => by omega) (xa_subI rfl rfl (fun _ _ _ _ => by omega) (xa_subI rfl rfl (fun _ _ _ _ => by omega) (xa_subI rfl rfl (fun _ _ _ _ => by omega) (xa_subI rfl rfl (fun _ _ _ _ => by omega) (xa_subI rfl rfl (fun _ _ _ _ => by omega) (xa_subI rfl rfl (fun _ _ _ _ => by omega) (xa_subR rfl xa_sub0)))))))) ?_
                      exact ih2 (x7 + 1) (((x5 + x6) + x7) + r2) (xa_w32 (x3 + 1)) (xa_up (xa_up (xa_up (xa_up M1 91 0 x5) 91 1 x6) 91 2 x7) 91 3 r2) (by omega) (by omega) (by omega) (by omega) (by omega) (xm_cor_a rfl (xm_cor_a rfl (xm_cor_a rfl (xm_cor_a rfl hc)))) (by omega)
                    · intro (c8 : 1 < (xa_w32 (x3 + 1)))
                      refine And.intro ?_ ?_
                      · intro (c9 : (((x5 + x6) + x7) + r2) < x4)
                        show Q 103 [(7, (0, 0, 11, 402, x7 + 1)), (4, (0, 0, 21, 2201, ((x5 + x6) + x7) + r2)), (9, (0, 0, 21, 2201, ((x5 + x6) + x7) + r2)), (3, (0, 0, (-2147483648), 2147483647, xa_w32 (x3 + 1))), (8, (0, 0, 0, 1000, r2)), (6, (0, 0, 1, 400, x6)), (5, (0, 0, 10, 400, x5)), (2, (0, 0, 1, 2, x2)), (1, (0, 0, 0, 7, x1)), (0, (2, 60, 0, 0, 0))] [] (xa_up (xa_up (xa_up (xa_up M1 91 0 x5) 91 1 x6) 91 2 x7) 91 3 r2)
                        refine hgo.2.1 103 _ [(7, (0, 0, 10, 401, x7 + 1)), (6, (0, 0, 1, 400, x6)), (5, (0, 0, 10, 400, x5)), (4, (0, 0, (-2147483648), 2147483647, ((x5 + x6) + x7) + r2)), (3, (0, 0, (-2147483648), 2147483647, xa_w32 (x3 + 1))), (2, (0, 0, 1, 2, x2)), (1, (0, 0, 0, 7, x1)), (0, (2, 60, 0, 0, 0))] _ _ (xa_subI rfl rfl (fun _ _ _ _ => by omega) (xa_subI rfl rfl (fun _ _ _ _ => by omega) (xa_subI rfl rfl (fun _ _ _ _ => by omega) (xa_subI rfl rfl (fun _ _ _ _ => by omega) (xa_subI rfl rfl (fun _ _ _ _ => by omega) (xa_subI rfl rfl (fun _ _ _ _ => by omega) (xa_subI rfl rfl (fun _ _ _ _ => by omega) (xa_subR rfl xa_sub0)))))))) ?_
                        exact ih2 (x7 + 1) (((x5 + x6) + x7) + r2) (xa_w32 (x3 + 1)) (xa_up (xa_up (xa_up (xa_up M1 91 0 x5) 91 1 x6) 91 2 x7) 91 3 r2) (by omega) (by omega) (by omega) (by omega) (by omega) (xm_cor_a rfl (xm_cor_a rfl (xm_cor_a rfl (xm_cor_a rfl hc)))) (by omega)
                      · intro (c9 : x4 ≤ (((x5 + x6) + x7) + r2))
                        show Q 103 [(7, (0, 0, 11, 402, x7 + 1)), (9, (0, 0, 21, 2201, ((x5 + x6) + x7) + r2)), (3, (0, 0, (-2147483648), 2147483647, xa_w32 (x3 + 1))), (8, (0, 0, 0, 1000, r2)), (6, (0, 0, 1, 400, x6)), (5, (0, 0, 10, 400, x5)), (4, (0, 0, (-2147483648), 2147483647, x4)), (2, (0, 0, 1, 2, x2)), (1, (0, 0, 0, 7, x1)), (0, (2, 60, 0, 0, 0))] [] M1
                        refine hgo.2.1 103 _ [(7, (0, 0, 10, 401, x7 + 1)), (6, (0, 0, 1, 400, x6)), (5, (0, 0, 10, 400, x5)), (4, (0, 0, (-2147483648), 2147483647, x4)), (3, (0, 0, (-2147483648), 2147483647, xa_w32 (x3 + 1))), (2, (0, 0, 1, 2, x2)), (1, (0, 0, 0, 7, x1)), (0, (2, 60, 0, 0, 0))] _ _ (xa_subI rfl rfl (fun _ _ _ _ => by omega) (xa_subI rfl rfl (fun _ _ _ _ => by omega) (xa_subI rfl rfl (fun _ _ _ _ => by omega) (xa_subI rfl rfl (fun _ _ _ _ => by omega) (xa_subI rfl rfl (fun _ _ _ _ => by omega) (xa_subI rfl rfl (fun _ _ _ _ => by omega) (xa_subI rfl rfl (fun _ _ _ _ => by omega) (xa_subR rfl xa_sub0)))))))) ?_
                        exact ih2 (x7 + 1) x4 (xa_w32 (x3 + 1)) M1 (by omega) (by omega) (by omega) (by omega) (by omega) hc (by omega)
                  · intro (c7 : ¬ r2 = 1)
                    show Q 103 [(7, (0, 0, 11, 402, x7 + 1)), (8, (0, 0, 0, 1000, r2)), (6, (0, 0, 1, 400, x6)), (5, (0, 0, 10, 400, x5)), (4, (0, 0, (-2147483648), 2147483647, x4)), (3, (0, 0, (-2147483648), 2147483647, x3)), (2, (0, 0, 1, 2, x2)), (1, (0, 0, 0, 7, x1)), (0, (2, 60, 0, 0, 0))] [] M1
                    refine hgo.2.1 103 _ [(7, (0, 0, 10, 401, x7 + 1)), (6, (0, 0, 1, 400, x6)), (5, (0, 0, 10, 400, x5)), (4, (0, 0, (-2147483648), 2147483647, x4)), (3, (0, 0, (-2147483648), 2147483647, x3)), (2, (0, 0, 1, 2, x2)), (1, (0, 0, 0, 7, x1)), (0, (2, 60, 0, 0, 0))] _ _ (xa_subI rfl rfl (fun _ _ _ _ => by omega) (xa_subI rfl rfl (fun _ _ _ _ => by omega) (xa_subI rfl rfl (fun _ _ _ _ => by omega) (xa_subI rfl rfl (fun _ _ _ _ => by omega) (xa_subI rfl rfl (fun _ _ _ _ => by omega) (xa_subI rfl rfl (fun _ _ _ _ => by omega) (xa_subI rfl rfl (fun _ _ _ _ => by omega) (xa_subR rfl xa_sub0)))))))) ?_
                    exact ih2 (x7 + 1) x4 x3 M1 (by omega) (by omega) (by omega) (by omega) (by omega) hc (by omega)
          refine hgo.1 15 [57, 79, 103, 249] 79 _ _ _ ?_
          refine And.intro ?_ ?_
          · intro (c1 : ¬ x2 = 1)
            refine And.intro ?_ ?_
            · intro (c2 : (M1 60 16) < x6)
              show Q 57 [(5, (0, 0, 11, 401, x5 + 1)), (6, (0, 0, 1, 401, x6)), (4, (0, 0, (-2147483648), 2147483647, x4)), (3, (0, 0, (-2147483648), 2147483647, x3)), (2, (0, 0, 1, 2, x2)), (1, (0, 0, 0, 7, x1)), (0, (2, 60, 0, 0, 0))] [] M1
              refine hgo.2.1 57 _ [(5, (0, 0, 10, 401, x5 + 1)), (4, (0, 0, (-2147483648), 2147483647, x4)), (3, (0, 0, (-2147483648), 2147483647, x3)), (2, (0, 0, 1, 2, x2)), (1, (0, 0, 0, 7, x1)), (0, (2, 60, 0, 0, 0))] _ _ (xa_subI rfl rfl (fun _ _ _ _ => by omega) (xa_subI rfl rfl (fun _ _ _ _ => by omega) (xa_subI rfl rfl (fun _ _ _ _ => by omega) (xa_subI rfl rfl (fun _ _ _ _ => by omega) (xa_subI rfl rfl (fun _ _ _ _ => by omega) (xa_subR rfl xa_sub0)))))) ?_
              exact ih0 (x5 + 1) x4 x3 x2 x1 M1 (by omega) (by omega) (by omega) hc (by omega) (by omega)
            · intro (c2 : x6 ≤ (M1 60 16))
              show Q 103 [(7, (0, 0, 10, 400, M1 60 15)), (6, (0, 0, 1, 401, x6)), (5, (0, 0, 10, 400, x5)), (4, (0, 0, (-2147483648), 2147483647, x4)), (3, (0, 0, (-2147483648), 2147483647, x3)), (2, (0, 0, 1, 2, x2)), (1, (0, 0, 0, 7, x1)), (0, (2, 60, 0, 0, 0))] [] M1
              refine hgo.2.1 103 _ [(7, (0, 0, 10, 401, M1 60 15)), (6, (0, 0, 1, 400, x6)), (5, (0, 0, 10, 400, x5)), (4, (0, 0, (-2147483648), 2147483647, x4)), (3, (0, 0, (-2147483648), 2147483647, x3)), (2, (0, 0, 1, 2, x2)), (1, (0, 0, 0, 7, x1)), (0, (2, 60, 0, 0, 0))] _ _ (xa_subI rfl rfl (fun _ _ _ _ => by omega) (xa_subI rfl rfl (fun _ _ _ _ => by omega) (xa_subI rfl rfl (fun _ _ _ _ => by omega) (xa_subI rfl rfl (fun _ _ _ _ => by omega) (xa_subI rfl rfl (fun _ _ _ _ => by omega) (xa_subI rfl rfl (fun _ _ _ _ => by omega) (xa_subI rfl rfl (fun _ _ _ _ => by omega) (xa_subR rfl xa_sub0)))))))) ?_
              exact loop2 402 (M1 60 15) x4 x3 M1 (by omega) (by omega) (by omega) (by omega) (by omega) hc (by omega)
          · intro (c1 : x2 = 1)
            refine And.intro ?_ ?_
            · intro (c3 : 1 < x6)
              show Q 57 [(5, (0, 0, 11, 401, x5 + 1)), (6, (0, 0, 1, 401, x6)), (4, (0, 0, (-2147483648), 2147483647, x4)), (3, (0, 0, (-2147483648), 2147483647, x3)), (2, (0, 0, 1, 2, x2)), (1, (0, 0, 0, 7, x1)), (0, (2, 60, 0, 0, 0))] [] M1
              refine hgo.2.1 57 _ [(5, (0, 0, 10, 401, x5 + 1)), (4, (0, 0, (-2147483648), 2147483647, x4)), (3, (0, 0, (-2147483648), 2147483647, x3)), (2, (0, 0, 1, 2, x2)), (1, (0, 0, 0, 7, x1)), (0, (2, 60, 0, 0, 0))] _ _ (xa_subI rfl rfl (fun _ _ _ _ => by omega) (xa_subI rfl rfl (fun _ _ _ _ => by omega) (xa_subI rfl rfl (fun _ _ _ _ => by omega) (xa_subI rfl rfl (fun _ _ _ _ => by omega) (xa_subI rfl rfl (fun _ _ _ _ => by omega) (xa_subR rfl xa_sub0)))))) ?_
              exact ih0 (x5 + 1) x4 x3 x2 x1 M1 (by omega) (by omega) (by omega) hc (by omega) (by omega)
            · intro (c3 : x6 ≤ 1)
              show Q 103 [(7, (0, 0, 10, 400, M1 60 15)), (6, (0, 0, 1, 401, x6)), (5, (0, 0, 10, 400, x5)), (4, (0, 0, (-2147483648), 2147483647, x4)), (3, (0, 0, (-2147483648), 2147483647, x3)), (2, (0, 0, 1, 2, x2)), (1, (0, 0, 0, 7, x1)), (0, (2, 60, 0, 0, 0))] [] M1
              refine hgo.2.1 103 _ [(7, (0, 0, 10, 401, M1 60 15)), (6, (0, 0, 1, 400, x6)), (5, (0, 0, 10, 400, x5)), (4, (0, 0, (-2147483648), 2147483647, x4)), (3, (0, 0, (-2147483648), 2147483647, x3)), (2, (0, 0, 1, 2, x2)), (1, (0, 0, 0, 7, x1)), (0, (2, 60, 0, 0, 0))] _ _ (xa_subI rfl rfl (fun _ _ _ _ => by omega) (xa_subI rfl rfl (fun _ _ _ _ => by omega) (xa_subI rfl rfl (fun _ _ _ _ => by omega) (xa_subI rfl rfl (fun _ _ _ _ => by omega) (xa_subI rfl rfl (fun _ _ _ _ => by omega) (xa_subI rfl rfl (fun _ _ _ _ => by omega) (xa_subI rfl rfl (fun _ _ _ _ => by omega) (xa_subR rfl xa_sub0)))))))) ?_
              exact loop2 402 (M1 60 15) x4 x3 M1 (by omega) (by omega) (by omega) (by omega) (by omega) hc (by omega)
      refine hgo.1 15 [57, 79, 103, 249] 57 _ _ _ ?_
      refine And.intro ?_ ?_
      · intro (c1 : (M1 60 16) < x5)
        show Q 249 [(5, (0, 0, 0, 0, 0)), (4, (0, 0, (-2147483648), 2147483647, x4)), (3, (0, 0, (-2147483648), 2147483647, x3)), (2, (0, 0, 1, 2, x2)), (1, (0, 0, 0, 7, x1)), (0, (2, 60, 0, 0, 0))] [] (xa_up M1 60 20 0)
        refine hgo.2.1 249 _ [(5, (0, 0, 0, 4, 0)), (3, (0, 0, (-2147483648), 2147483647, x3)), (2, (0, 0, 1, 2, x2)), (0, (2, 60, 0, 0, 0))] _ _ (xa_subI rfl rfl (fun _ _ _ _ => by omega) (xa_subI rfl rfl (fun _ _ _ _ => by omega) (xa_subI rfl rfl (fun _ _ _ _ => by omega) (xa_subR rfl xa_sub0)))) ?_
        exact loop3 5 0 x3 x2 (xa_up M1 60 20 0) (by omega) (by omega) (xm_cor_f (by omega) hc) (by first | omega | (simp [xa_up]; done) | (simp [xa_up]; omega)) (by omega)
      · intro (c1 : x5 ≤ (M1 60 16))
        refine And.intro ?_ ?_
        · intro (c2 : ¬ x2 = 1)
          show Q 79 [(6, (0, 0, 10, 401, x5)), (5, (0, 0, 10, 401, x5)), (4, (0, 0, (-2147483648), 2147483647, x4)), (3, (0, 0, (-2147483648), 2147483647, x3)), (2, (0, 0, 1, 2, x2)), (1, (0, 0, 0, 7, x1)), (0, (2, 60, 0, 0, 0))] [] M1
          refine hgo.2.1 79 _ [(6, (0, 0, 1, 401, x5)), (5, (0, 0, 10, 400, x5)), (4, (0, 0, (-2147483648), 2147483647, x4)), (3, (0, 0, (-2147483648), 2147483647, x3)), (2, (0, 0, 1, 2, x2)), (1, (0, 0, 0, 7, x1)), (0, (2, 60, 0, 0, 0))] _ _ (xa_subI rfl rfl (fun _ _ _ _ => by omega) (xa_subI rfl rfl (fun _ _ _ _ => by omega) (xa_subI rfl rfl (fun _ _ _ _ => by omega) (xa_subI rfl rfl (fun _ _ _ _ => by omega) (xa_subI rfl rfl (fun _ _ _ _ => by omega) (xa_subI rfl rfl (fun _ _ _ _ => by omega) (xa_subR rfl xa_sub0))))))) ?_
          exact loop1 402 x5 x4 x3 M1 (by omega) (by omega) (by omega) (by omega) hc (by omega)
        · intro (c2 : x2 = 1)
          show Q 79 [(6, (0, 0, 1, 1, 1)), (5, (0, 0, 10, 401, x5)), (4, (0, 0, (-2147483648), 2147483647, x4)), (3, (0, 0, (-2147483648), 2147483647, x3)), (2, (0, 0, 1, 2, x2)), (1, (0, 0, 0, 7, x1)), (0, (2, 60, 0, 0, 0))] [] M1
          refine hgo.2.1 79 _ [(6, (0, 0, 1, 401, 1)), (5, (0, 0, 10, 400, x5)), (4, (0, 0, (-2147483648), 2147483647, x4)), (3, (0, 0, (-2147483648), 2147483647, x3)), (2, (0, 0, 1, 2, x2)), (1, (0, 0, 0, 7, x1)), (0, (2, 60, 0, 0, 0))] _ _ (xa_subI rfl rfl (fun _ _ _ _ => by omega) (xa_subI rfl rfl (fun _ _ _ _ => by omega) (xa_subI rfl rfl (fun _ _ _ _ => by omega) (xa_subI rfl rfl (fun _ _ _ _ => by omega) (xa_subI rfl rfl (fun _ _ _ _ => by omega) (xa_subI rfl rfl (fun _ _ _ _ => by omega) (xa_subR rfl xa_sub0))))))) ?_
          exact loop1 402 1 x4 x3 M1 (by omega) (by omega) (by omega) (by omega) hc (by omega)
  refine hgo.1 18 [24] 0 _ _ _ ?_
  show xa_C xm_I A h0 _ 239 [(2, 60, 0, 0, 0), (0, 0, (-2147483648), 2147483647, a)] (xa_up M 60 21 0) _
  refine ct_isPeriod ?_ ?_
  · intro (i1 : 0 ≤ a ∧ a < (M 60 11))
    show xa_C xm_I A h0 _ 214 [(0, 0, (-2147483648), 2147483647, b), (0, 0, 1, 1, 1), (0, 0, 2, 2, 2)] (xa_up M 60 21 0) _
    refine ct_in ?_ ?_
    · intro (i2 : 1 ≤ b ∧ b ≤ 2)
      show Q 24 [(0, (2, 60, 0, 0, 0)), (1, (0, 0, (-2147483648), 2147483647, a)), (2, (0, 0, (-2147483648), 2147483647, b))] [] (xa_up M 60 21 0)
      refine hgo.2.1 24 _ [(2, (0, 0, 1, 2, b)), (1, (0, 0, 0, 7, a)), (0, (2, 60, 0, 0, 0))] _ _ (xa_subI rfl rfl (fun _ _ _ _ => by omega) (xa_subI rfl rfl (fun _ _ _ _ => by omega) (xa_subR rfl xa_sub0))) ?_
      refine hgo.1 22 [57, 79, 103, 249] 24 _ _ _ ?_
      refine And.intro ?_ ?_
      · intro (c103 : ¬ b = 2)
        show Q 57 [(5, (0, 0, 10, 400, M 60 15)), (4, (0, 0, 0, 0, 0)), (3, (0, 0, 0, 0, 0)), (2, (0, 0, 1, 2, b)), (1, (0, 0, 0, 7, a)), (0, (2, 60, 0, 0, 0))] [] (xa_up M 60 21 0)
        refine hgo.2.1 57 _ [(5, (0, 0, 10, 401, M 60 15)), (4, (0, 0, (-2147483648), 2147483647, 0)), (3, (0, 0, (-2147483648), 2147483647, 0)), (2, (0, 0, 1, 2, b)), (1, (0, 0, 0, 7, a)), (0, (2, 60, 0, 0, 0))] _ _ (xa_subI rfl rfl (fun _ _ _ _ => by omega) (xa_subI rfl rfl (fun _ _ _ _ => by omega) (xa_subI rfl rfl (fun _ _ _ _ => by omega) (xa_subI rfl rfl (fun _ _ _ _ => by omega) (xa_subI rfl rfl (fun _ _ _ _ => by omega) (xa_subR rfl xa_sub0)))))) ?_
        exact loop0 402 (M 60 15) 0 0 b a (xa_up M 60 21 0) (by omega) (by omega) (by omega) (xm_cor_f (by omega) xm_cor_r) (by omega) (by omega)
      · intro (c103 : b = 2)
        refine And.intro ?_ ?_
        · intro (c104 : ((M 60 16) - (M 60 15)) ≤ 60)
          show Q 57 [(5, (0, 0, 10, 400, M 60 15)), (4, (0, 0, 0, 0, 0)), (3, (0, 0, 0, 0, 0)), (2, (0, 0, 1, 2, b)), (1, (0, 0, 0, 7, a)), (0, (2, 60, 0, 0, 0))] [] (xa_up M 60 21 0)
          refine hgo.2.1 57 _ [(5, (0, 0, 10, 401, M 60 15)), (4, (0, 0, (-2147483648), 2147483647, 0)), (3, (0, 0, (-2147483648), 2147483647, 0)), (2, (0, 0, 1, 2, b)), (1, (0, 0, 0, 7, a)), (0, (2, 60, 0, 0, 0))] _ _ (xa_subI rfl rfl (fun _ _ _ _ => by omega) (xa_subI rfl rfl (fun _ _ _ _ => by omega) (xa_subI rfl rfl (fun _ _ _ _ => by omega) (xa_subI rfl rfl (fun _ _ _ _ => by omega) (xa_subI rfl rfl (fun _ _ _ _ => by omega) (xa_subR rfl xa_sub0)))))) ?_
          exact loop0 402 (M 60 15) 0 0 b a (xa_up M 60 21 0) (by omega) (by omega) (by omega) (xm_cor_f (by omega) xm_cor_r) (by omega) (by omega)
        · intro (c104 : 60 < ((M 60 16) - (M 60 15)))
          show post (some (0, 0, (-4), (-4), (-4))) (xa_up M 60 21 0)
          exact k _ _ (xm_cor_f (by omega) xm_cor_r)
    · intro (i2 : ¬ (1 ≤ b ∧ b ≤ 2))
      show post (some (0, 0, (-1), (-1), (-1))) (xa_up M 60 21 0)
      exact k _ _ (xm_cor_f (by omega) xm_cor_r)
  · intro (i1 : ¬ (0 ≤ a ∧ a < (M 60 11)))
    show post (some (0, 0, (-1), (-1), (-1))) (xa_up M 60 21 0)
    exact k _ _ (xm_cor_f (by omega) xm_cor_r)
theorem ms_common {A : Nat → Nat} {h0 : g_H} {d : Nat} {M : xa_M} {post : Option xa_V → xa_M → Prop} {l1 u1 : Int} {a : Int} (hI : xm_Inv M) (k : ∀ (o : Option xa_V) (M1 : xa_M), xm_cor M M1 → post o M1) : xa_C xm_I A h0 (d + 3) 261 [(2, 60, 0, 0, 0), (0, 0, l1, u1, a)] M post := by
  refine xa_C_arg [(2, 60, 0, 0, 0), (0, 0, (-2147483648), 2147483647, a)] (xa_svR (xa_svI (fun _ _ _ _ => by omega) xa_sv0)) ?_
  refine xa_meth (Q0 := (6, 1, false, 0, 0, 12)) (by decide +kernel) ⟨rfl, rfl⟩ (full := s_c_261) rfl rfl ?_
  intro hM hv Q hgo
  have b0 := xm_f0 hM
  have b6 := xm_f6 hM
  have b61 := xm_f61 hM
  have b11 := xm_f11 hM
  have b15 := xm_f15 hM
  have b16 := xm_f16 hM
  have hlh := hI.2.2.2.1
  have loop5 : ∀ (n : Nat) (x3 x2 : Int) (M1 : xa_M), 10 ≤ x3 ∧ x3 ≤ 401 → 10 ≤ x2 ∧ x2 ≤ 400 → xm_cor M M1 → 401 - x3 < (n : Int) → Q 237 [(3, (0, 0, 10, 401, x3)), (2, (0, 0, 10, 400, x2)), (0, (2, 60, 0, 0, 0))] [] M1 := by
    intro n
    induction n with
    | zero => intro x3 x2 M1 b3 b2 hc hms; omega
    | succ n ih5 =>
      intro x3 x2 M1 b3 b2 hc hms5
      have e0 := xm_corf hc 0 (by omega)
      have e6 := xm_corf hc 6 (by omega)
      have e61 := xm_corf hc 61 (by omega)
      have e11 := xm_corf hc 11 (by omega)
      have e15 := xm_corf hc 15 (by omega)
      have e16 := xm_corf hc 16 (by omega)
      refine hgo.1 25 [40, 62, 86, 97, 142, 237] 237 _ _ _ ?_
      refine And.intro ?_ ?_
      · intro (c1 : (M1 60 16) < x3)
        refine And.intro ?_ ?_
        · intro (c2 : ¬ (M1 92 x2) = 0)
          show xa_C xm_I A h0 _ 231 [(2, 60, 0, 0, 0), (1, 0, (-2147483648), 2147483647, M1 92 x2)] (xa_up M1 60 20 0) _
          refine ct_tell (n := 0) (by first | rfl | (simp [xa_up]; done) | omega) (by omega) (by omega) ?_
          show post (some (0, 0, 10, 400, x2)) (xa_up (xa_up (xa_up M1 60 20 0) 74 0 (M1 92 x2)) 60 20 1)
          exact k _ _ (xm_cor_f (by omega) (xm_cor_a rfl (xm_cor_f (by omega) hc)))
        · intro (c2 : (M1 92 x2) = 0)
          show post (some (0, 0, (-2), (-2), (-2))) M1
          exact k _ _ hc
      · intro (c1 : x3 ≤ (M1 60 16))
        refine And.intro (show 0 ≤ x3 ∧ x3 < 401 by omega) ?_
        show xa_C xm_I A h0 _ 136 [(0, 0, (-2147483648), 2147483647, M1 92 x3)] M1 _
        refine ct_bitCount ?_
        show xa_C xm_I A h0 _ 136 [(0, 0, (-2147483648), 2147483647, M1 92 x2)] M1 _
        refine ct_bitCount ?_
        refine And.intro ?_ ?_
        · intro (c3 : (xa_bc (M1 92 x3)) ≤ (xa_bc (M1 92 x2)))
          show Q 237 [(3, (0, 0, 11, 402, x3 + 1)), (2, (0, 0, 10, 400, x2)), (0, (2, 60, 0, 0, 0))] [] M1
          refine hgo.2.1 237 _ [(3, (0, 0, 10, 401, x3 + 1)), (2, (0, 0, 10, 400, x2)), (0, (2, 60, 0, 0, 0))] _ _ (xa_subI rfl rfl (fun _ _ _ _ => by omega) (xa_subI rfl rfl (fun _ _ _ _ => by omega) (xa_subR rfl xa_sub0))) ?_
          exact ih5 (x3 + 1) x2 M1 (by omega) (by omega) hc (by omega)
        · intro (c3 : (xa_bc (M1 92 x2)) < (xa_bc (M1 92 x3)))
          show Q 237 [(3, (0, 0, 11, 402, x3 + 1)), (2, (0, 0, 10, 401, x3)), (0, (2, 60, 0, 0, 0))] [] M1
          refine hgo.2.1 237 _ [(3, (0, 0, 10, 401, x3 + 1)), (2, (0, 0, 10, 400, x3)), (0, (2, 60, 0, 0, 0))] _ _ (xa_subI rfl rfl (fun _ _ _ _ => by omega) (xa_subI rfl rfl (fun _ _ _ _ => by omega) (xa_subR rfl xa_sub0))) ?_
          exact ih5 (x3 + 1) x3 M1 (by omega) (by omega) hc (by omega)
  have loop1 : ∀ (n : Nat) (x2 x1 : Int) (M1 : xa_M), 0 ≤ x2 ∧ x2 ≤ 8 → xm_cor M M1 → 8 - x2 < (n : Int) → Q 62 [(2, (0, 0, 0, 8, x2)), (1, (0, 0, (-2147483648), 2147483647, x1)), (0, (2, 60, 0, 0, 0))] [] M1 := by
    intro n
    induction n with
    | zero => intro x2 x1 M1 b2 hc hms; omega
    | succ n ih1 =>
      intro x2 x1 M1 b2 hc hms1
      have e0 := xm_corf hc 0 (by omega)
      have e6 := xm_corf hc 6 (by omega)
      have e61 := xm_corf hc 61 (by omega)
      have e11 := xm_corf hc 11 (by omega)
      have e15 := xm_corf hc 15 (by omega)
      have e16 := xm_corf hc 16 (by omega)
      have loop2 : ∀ (n : Nat) (x3 : Int) (M1 : xa_M), 10 ≤ x3 ∧ x3 ≤ 401 → 0 ≤ x2 ∧ x2 ≤ 7 → xm_cor M M1 → x2 < M 60 11 → 401 - x3 < (n : Int) → Q 86 [(3, (0, 0, 10, 401, x3)), (2, (0, 0, 0, 7, x2)), (1, (0, 0, (-2147483648), 2147483647, x1)), (0, (2, 60, 0, 0, 0))] [] M1 := by
        intro n
        induction n with
        | zero => intro x3 M1 b3 f2 hc hx2 hms; omega
        | succ n ih2 =>
          intro x3 M1 b3 f2 hc hx2 hms2
          have e0 := xm_corf hc 0 (by omega)
          have e6 := xm_corf hc 6 (by omega)
          have e61 := xm_corf hc 61 (by omega)
          have e11 := xm_corf hc 11 (by omega)
          have e15 := xm_corf hc 15 (by omega)
          have e16 := xm_corf hc 16 (by omega)
          have loop3 : ∀ (n : Nat) (x4 : Int) (M1 : xa_M), 10 ≤ x4 ∧ x4 ≤ 401 → 10 ≤ x3 ∧ x3 ≤ 400 → 0 ≤ x2 ∧ x2 ≤ 7 → xm_cor M M1 → x2 < M 60 11 → 401 - x4 < (n : Int) → Q 97 [(4, (0, 0, 10, 401, x4)), (3, (0, 0, 10, 400, x3)), (2, (0, 0, 0, 7, x2)), (1, (0, 0, (-2147483648), 2147483647, x1)), (0, (2, 60, 0, 0, 0))] [] M1 := by
            intro n
            induction n with
            | zero => intro x4 M1 b4 f3 f2 hc hx2 hms; omega
            | succ n ih3 =>
              intro x4 M1 b4 f3 f2 hc hx2 hms3
              have e0 := xm_corf hc 0 (by omega)
              have e6 := xm_corf hc 6 (by omega)
              have e61 := xm_corf hc 61 (by omega)
              have e11 := xm_corf hc 11 (by omega)
              have e15 := xm_corf hc 15 (by omega)
              have e16 := xm_corf hc 16 (by omega)
              have loop4 : ∀ (n : Nat) (x5 : Int) (M1 : xa_M), 10 ≤ x5 ∧ x5 ≤ 401 → 10 ≤ x4 ∧ x4 ≤ 400 → 10 ≤ x3 ∧ x3 ≤ 400 → 0 ≤ x2 ∧ x2 ≤ 7 → xm_cor M M1 → x2 < M 60 11 → 401 - x5 < (n : Int) → Q 142 [(5, (0, 0, 10, 401, x5)), (4, (0, 0, 10, 400, x4)), (3, (0, 0, 10, 400, x3)), (2, (0, 0, 0, 7, x2)), (1, (0, 0, (-2147483648), 2147483647, x1)), (0, (2, 60, 0, 0, 0))] [] M1 := by
                intro n
                induction n with
                | zero => intro x5 M1 b5 f4 f3 f2 hc hx2 hms; omega
                | succ n ih4 =>
                  intro x5 M1 b5 f4 f3 f2 hc hx2 hms4
                  have e0 := xm_corf hc 0 (by omega)
                  have e6 := xm_corf hc 6 (by omega)
                  have e61 := xm_corf hc 61 (by omega)
                  have e11 := xm_corf hc 11 (by omega)
                  have e15 := xm_corf hc 15 (by omega)
                  have e16 := xm_corf hc 16 (by omega)
                  refine hgo.1 43 [40, 62, 86, 97, 142, 237] 142 _ _ _ ?_
                  refine And.intro ?_ ?_
                  · intro (c1 : (M1 60 16) < x5)
                    show Q 97 [(4, (0, 0, 11, 401, x4 + 1)), (5, (0, 0, 10, 401, x5)), (3, (0, 0, 10, 400, x3)), (2, (0, 0, 0, 7, x2)), (1, (0, 0, (-2147483648), 2147483647, x1)), (0, (2, 60, 0, 0, 0))] [] M1
                    refine hgo.2.1 97 _ [(4, (0, 0, 10, 401, x4 + 1)), (3, (0, 0, 10, 400, x3)), (2, (0, 0, 0, 7, x2)), (1, (0, 0, (-2147483648), 2147483647, x1)), (0, (2, 60, 0, 0, 0))] _ _ (xa_subI rfl rfl (fun _ _ _ _ => by omega) (xa_subI rfl rfl (fun _ _ _ _ => by omega) (xa_subI rfl rfl (fun _ _ _ _ => by omega) (xa_subI rfl rfl (fun _ _ _ _ => by omega) (xa_subR rfl xa_sub0))))) ?_
                    exact ih3 (x4 + 1) M1 (by omega) (by omega) (by omega) hc (by omega) (by omega)
                  · intro (c1 : x5 ≤ (M1 60 16))
                    show xa_C xm_I A h0 _ 258 [(2, 60, 0, 0, 0), (0, 0, 0, 7, x2), (0, 0, 10, 400, x3), (0, 0, 10, 400, x4), (0, 0, 10, 401, x5)] M1 _
                    refine ct_fourth (xm_Inv_cor hc hI) (by omega) (by rw [xm_corf hc 11 (by omega)]; omega) (by omega) (by omega) (by omega) (by omega) (by omega) (by omega) (fun r2 br2 => ?_)
                    show xa_C xm_I A h0 _ 214 [(0, 0, 0, 1000, r2), (0, 0, 10, 400, M1 60 15), (0, 0, 10, 400, M1 60 16)] M1 _
                    refine ct_in ?_ ?_
                    · intro (i3 : (M1 60 15) ≤ r2 ∧ r2 ≤ (M1 60 16))
                      show Q 142 [(5, (0, 0, 11, 402, x5 + 1)), (4, (0, 0, 10, 400, x4)), (3, (0, 0, 10, 400, x3)), (2, (0, 0, 0, 7, x2)), (1, (0, 0, (-2147483648), 2147483647, x1)), (0, (2, 60, 0, 0, 0))] [] (xa_up (xa_up M1 92 x3 (xa_ib 4 (M1 92 x3) (xa_ib 6 1 x2))) 92 x4 (xa_ib 4 ((xa_up M1 92 x3 (xa_ib 4 (M1 92 x3) (xa_ib 6 1 x2))) 92 x4) (xa_ib 6 1 x2)))
                      refine hgo.2.1 142 _ [(5, (0, 0, 10, 401, x5 + 1)), (4, (0, 0, 10, 400, x4)), (3, (0, 0, 10, 400, x3)), (2, (0, 0, 0, 7, x2)), (1, (0, 0, (-2147483648), 2147483647, x1)), (0, (2, 60, 0, 0, 0))] _ _ (xa_subI rfl rfl (fun _ _ _ _ => by omega) (xa_subI rfl rfl (fun _ _ _ _ => by omega) (xa_subI rfl rfl (fun _ _ _ _ => by omega) (xa_subI rfl rfl (fun _ _ _ _ => by omega) (xa_subI rfl rfl (fun _ _ _ _ => by omega) (xa_subR rfl xa_sub0)))))) ?_
                      exact ih4 (x5 + 1) (xa_up (xa_up M1 92 x3 (xa_ib 4 (M1 92 x3) (xa_ib 6 1 x2))) 92 x4 (xa_ib 4 ((xa_up M1 92 x3 (xa_ib 4 (M1 92 x3) (xa_ib 6 1 x2))) 92 x4) (xa_ib 6 1 x2))) (by omega) (by omega) (by omega) (by omega) (xm_cor_a rfl (xm_cor_a rfl hc)) (by omega) (by omega)
                    · intro (i3 : ¬ ((M1 60 15) ≤ r2 ∧ r2 ≤ (M1 60 16)))
                      show Q 142 [(5, (0, 0, 11, 402, x5 + 1)), (4, (0, 0, 10, 400, x4)), (3, (0, 0, 10, 400, x3)), (2, (0, 0, 0, 7, x2)), (1, (0, 0, (-2147483648), 2147483647, x1)), (0, (2, 60, 0, 0, 0))] [] M1
                      refine hgo.2.1 142 _ [(5, (0, 0, 10, 401, x5 + 1)), (4, (0, 0, 10, 400, x4)), (3, (0, 0, 10, 400, x3)), (2, (0, 0, 0, 7, x2)), (1, (0, 0, (-2147483648), 2147483647, x1)), (0, (2, 60, 0, 0, 0))] _ _ (xa_subI rfl rfl (fun _ _ _ _ => by omega) (xa_subI rfl rfl (fun _ _ _ _ => by omega) (xa_subI rfl rfl (fun _ _ _ _ => by omega) (xa_subI rfl rfl (fun _ _ _ _ => by omega) (xa_subI rfl rfl (fun _ _ _ _ => by omega) (xa_subR rfl xa_sub0)))))) ?_
                      exact ih4 (x5 + 1) M1 (by omega) (by omega) (by omega) (by omega) hc (by omega) (by omega)
              refine hgo.1 26 [40, 62, 86, 97, 142, 237] 97 _ _ _ ?_
              refine And.intro ?_ ?_
              · intro (c1 : (M1 60 16) < x4)
                show Q 86 [(3, (0, 0, 11, 401, x3 + 1)), (4, (0, 0, 10, 401, x4)), (2, (0, 0, 0, 7, x2)), (1, (0, 0, (-2147483648), 2147483647, x1)), (0, (2, 60, 0, 0, 0))] [] M1
                refine hgo.2.1 86 _ [(3, (0, 0, 10, 401, x3 + 1)), (2, (0, 0, 0, 7, x2)), (1, (0, 0, (-2147483648), 2147483647, x1)), (0, (2, 60, 0, 0, 0))] _ _ (xa_subI rfl rfl (fun _ _ _ _ => by omega) (xa_subI rfl rfl (fun _ _ _ _ => by omega) (xa_subI rfl rfl (fun _ _ _ _ => by omega) (xa_subR rfl xa_sub0)))) ?_
                exact ih2 (x3 + 1) M1 (by omega) (by omega) hc (by omega) (by omega)
              · intro (c1 : x4 ≤ (M1 60 16))
                show xa_C xm_I A h0 _ 248 [(0, 0, (-2147483648), 2147483647, M1 92 x3), (0, 0, 0, 7, x2)] M1 _
                refine ct_has (fun r2 zr2 er2 => ?_)
                refine And.intro ?_ ?_
                · intro (c3 : r2 = 0)
                  show Q 142 [(5, (0, 0, 10, 400, M1 60 15)), (4, (0, 0, 10, 401, x4)), (3, (0, 0, 10, 400, x3)), (2, (0, 0, 0, 7, x2)), (1, (0, 0, (-2147483648), 2147483647, x1)), (0, (2, 60, 0, 0, 0))] [] M1
                  refine hgo.2.1 142 _ [(5, (0, 0, 10, 401, M1 60 15)), (4, (0, 0, 10, 400, x4)), (3, (0, 0, 10, 400, x3)), (2, (0, 0, 0, 7, x2)), (1, (0, 0, (-2147483648), 2147483647, x1)), (0, (2, 60, 0, 0, 0))] _ _ (xa_subI rfl rfl (fun _ _ _ _ => by omega) (xa_subI rfl rfl (fun _ _ _ _ => by omega) (xa_subI rfl rfl (fun _ _ _ _ => by omega) (xa_subI rfl rfl (fun _ _ _ _ => by omega) (xa_subI rfl rfl (fun _ _ _ _ => by omega) (xa_subR rfl xa_sub0)))))) ?_
                  exact loop4 402 (M1 60 15) M1 (by omega) (by omega) (by omega) (by omega) hc (by omega) (by omega)
                · intro (c3 : ¬ r2 = 0)
                  refine And.intro (show 0 ≤ x4 ∧ x4 < 401 by omega) ?_
                  show xa_C xm_I A h0 _ 248 [(0, 0, (-2147483648), 2147483647, M1 92 x4), (0, 0, 0, 7, x2)] M1 _
                  refine ct_has (fun r4 zr4 er4 => ?_)
                  refine And.intro ?_ ?_
                  · intro (c5 : r4 = 0)
                    show Q 142 [(5, (0, 0, 10, 400, M1 60 15)), (4, (0, 0, 10, 401, x4)), (3, (0, 0, 10, 400, x3)), (2, (0, 0, 0, 7, x2)), (1, (0, 0, (-2147483648), 2147483647, x1)), (0, (2, 60, 0, 0, 0))] [] M1
                    refine hgo.2.1 142 _ [(5, (0, 0, 10, 401, M1 60 15)), (4, (0, 0, 10, 400, x4)), (3, (0, 0, 10, 400, x3)), (2, (0, 0, 0, 7, x2)), (1, (0, 0, (-2147483648), 2147483647, x1)), (0, (2, 60, 0, 0, 0))] _ _ (xa_subI rfl rfl (fun _ _ _ _ => by omega) (xa_subI rfl rfl (fun _ _ _ _ => by omega) (xa_subI rfl rfl (fun _ _ _ _ => by omega) (xa_subI rfl rfl (fun _ _ _ _ => by omega) (xa_subI rfl rfl (fun _ _ _ _ => by omega) (xa_subR rfl xa_sub0)))))) ?_
                    exact loop4 402 (M1 60 15) M1 (by omega) (by omega) (by omega) (by omega) hc (by omega) (by omega)
                  · intro (c5 : ¬ r4 = 0)
                    show Q 97 [(4, (0, 0, 11, 402, x4 + 1)), (3, (0, 0, 10, 400, x3)), (2, (0, 0, 0, 7, x2)), (1, (0, 0, (-2147483648), 2147483647, x1)), (0, (2, 60, 0, 0, 0))] [] M1
                    refine hgo.2.1 97 _ [(4, (0, 0, 10, 401, x4 + 1)), (3, (0, 0, 10, 400, x3)), (2, (0, 0, 0, 7, x2)), (1, (0, 0, (-2147483648), 2147483647, x1)), (0, (2, 60, 0, 0, 0))] _ _ (xa_subI rfl rfl (fun _ _ _ _ => by omega) (xa_subI rfl rfl (fun _ _ _ _ => by omega) (xa_subI rfl rfl (fun _ _ _ _ => by omega) (xa_subI rfl rfl (fun _ _ _ _ => by omega) (xa_subR rfl xa_sub0))))) ?_
                    exact ih3 (x4 + 1) M1 (by omega) (by omega) (by omega) hc (by omega) (by omega)
          refine hgo.1 11 [40, 62, 86, 97, 142, 237] 86 _ _ _ ?_
          refine And.intro ?_ ?_
          · intro (c1 : (M1 60 16) < x3)
            show Q 62 [(2, (0, 0, 1, 8, x2 + 1)), (3, (0, 0, 10, 401, x3)), (1, (0, 0, (-2147483648), 2147483647, x1)), (0, (2, 60, 0, 0, 0))] [] M1
            refine hgo.2.1 62 _ [(2, (0, 0, 0, 8, x2 + 1)), (1, (0, 0, (-2147483648), 2147483647, x1)), (0, (2, 60, 0, 0, 0))] _ _ (xa_subI rfl rfl (fun _ _ _ _ => by omega) (xa_subI rfl rfl (fun _ _ _ _ => by omega) (xa_subR rfl xa_sub0))) ?_
            exact ih1 (x2 + 1) x1 M1 (by omega) hc (by omega)
          · intro (c1 : x3 ≤ (M1 60 16))
            show Q 97 [(4, (0, 0, 10, 401, x3)), (3, (0, 0, 10, 401, x3)), (2, (0, 0, 0, 7, x2)), (1, (0, 0, (-2147483648), 2147483647, x1)), (0, (2, 60, 0, 0, 0))] [] M1
            refine hgo.2.1 97 _ [(4, (0, 0, 10, 401, x3)), (3, (0, 0, 10, 400, x3)), (2, (0, 0, 0, 7, x2)), (1, (0, 0, (-2147483648), 2147483647, x1)), (0, (2, 60, 0, 0, 0))] _ _ (xa_subI rfl rfl (fun _ _ _ _ => by omega) (xa_subI rfl rfl (fun _ _ _ _ => by omega) (xa_subI rfl rfl (fun _ _ _ _ => by omega) (xa_subI rfl rfl (fun _ _ _ _ => by omega) (xa_subR rfl xa_sub0))))) ?_
            exact loop3 402 x3 M1 (by omega) (by omega) (by omega) hc (by omega) (by omega)
      refine hgo.1 16 [40, 62, 86, 97, 142, 237] 62 _ _ _ ?_
      refine And.intro ?_ ?_
      · intro (c1 : (M1 60 11) ≤ x2)
        show Q 237 [(3, (0, 0, 10, 400, M1 60 15)), (2, (0, 0, 10, 400, M1 60 15)), (1, (0, 0, (-2147483648), 2147483647, x1)), (0, (2, 60, 0, 0, 0))] [] M1
        refine hgo.2.1 237 _ [(3, (0, 0, 10, 401, M1 60 15)), (2, (0, 0, 10, 400, M1 60 15)), (0, (2, 60, 0, 0, 0))] _ _ (xa_subI rfl rfl (fun _ _ _ _ => by omega) (xa_subI rfl rfl (fun _ _ _ _ => by omega) (xa_subR rfl xa_sub0))) ?_
        exact loop5 402 (M1 60 15) (M1 60 15) M1 (by omega) (by omega) hc (by omega)
      · intro (c1 : x2 < (M1 60 11))
        show xa_C xm_I A h0 _ 248 [(0, 0, (-2147483648), 2147483647, x1), (0, 0, 0, 8, x2)] M1 _
        refine ct_has (fun r2 zr2 er2 => ?_)
        refine And.intro ?_ ?_
        · intro (c3 : ¬ r2 = 0)
          show Q 86 [(3, (0, 0, 10, 400, M1 60 15)), (2, (0, 0, 0, 8, x2)), (1, (0, 0, (-2147483648), 2147483647, x1)), (0, (2, 60, 0, 0, 0))] [] M1
          refine hgo.2.1 86 _ [(3, (0, 0, 10, 401, M1 60 15)), (2, (0, 0, 0, 7, x2)), (1, (0, 0, (-2147483648), 2147483647, x1)), (0, (2, 60, 0, 0, 0))] _ _ (xa_subI rfl rfl (fun _ _ _ _ => by omega) (xa_subI rfl rfl (fun _ _ _ _ => by omega) (xa_subI rfl rfl (fun _ _ _ _ => by omega) (xa_subR rfl xa_sub0)))) ?_
          exact loop2 402 (M1 60 15) M1 (by omega) (by omega) hc (by omega) (by omega)
        · intro (c3 : r2 = 0)
          show Q 62 [(2, (0, 0, 1, 9, x2 + 1)), (1, (0, 0, (-2147483648), 2147483647, x1)), (0, (2, 60, 0, 0, 0))] [] M1
          refine hgo.2.1 62 _ [(2, (0, 0, 0, 8, x2 + 1)), (1, (0, 0, (-2147483648), 2147483647, x1)), (0, (2, 60, 0, 0, 0))] _ _ (xa_subI rfl rfl (fun _ _ _ _ => by omega) (xa_subI rfl rfl (fun _ _ _ _ => by omega) (xa_subR rfl xa_sub0))) ?_
          exact ih1 (x2 + 1) x1 M1 (by omega) hc (by omega)
  have loop0 : ∀ (n : Nat) (x2 x1 : Int) (M1 : xa_M), 0 ≤ x2 ∧ x2 ≤ 401 → xm_cor M M1 → 401 - x2 < (n : Int) → Q 40 [(2, (0, 0, 0, 401, x2)), (1, (0, 0, (-2147483648), 2147483647, x1)), (0, (2, 60, 0, 0, 0))] [] M1 := by
    intro n
    induction n with
    | zero => intro x2 x1 M1 b2 hc hms; omega
    | succ n ih0 =>
      intro x2 x1 M1 b2 hc hms0
      refine hgo.1 15 [40, 62, 86, 97, 142, 237] 40 _ _ _ ?_
      refine And.intro ?_ ?_
      · intro (c1 : 400 < x2)
        show Q 62 [(2, (0, 0, 0, 0, 0)), (1, (0, 0, (-2147483648), 2147483647, x1)), (0, (2, 60, 0, 0, 0))] [] M1
        refine hgo.2.1 62 _ [(2, (0, 0, 0, 8, 0)), (1, (0, 0, (-2147483648), 2147483647, x1)), (0, (2, 60, 0, 0, 0))] _ _ (xa_subI rfl rfl (fun _ _ _ _ => by omega) (xa_subI rfl rfl (fun _ _ _ _ => by omega) (xa_subR rfl xa_sub0))) ?_
        exact loop1 9 0 x1 M1 (by omega) hc (by omega)
      · intro (c1 : x2 ≤ 400)
        refine And.intro (show 0 ≤ x2 ∧ x2 < 401 by omega) ?_
        show Q 40 [(2, (0, 0, 1, 402, x2 + 1)), (1, (0, 0, (-2147483648), 2147483647, x1)), (0, (2, 60, 0, 0, 0))] [] (xa_up M1 92 x2 0)
        refine hgo.2.1 40 _ [(2, (0, 0, 0, 401, x2 + 1)), (1, (0, 0, (-2147483648), 2147483647, x1)), (0, (2, 60, 0, 0, 0))] _ _ (xa_subI rfl rfl (fun _ _ _ _ => by omega) (xa_subI rfl rfl (fun _ _ _ _ => by omega) (xa_subR rfl xa_sub0))) ?_
        exact ih0 (x2 + 1) x1 (xa_up M1 92 x2 0) (by omega) (xm_cor_a rfl hc) (by omega)
  refine hgo.1 25 [40, 62, 86, 97, 142, 237] 0 _ _ _ ?_
  refine And.intro ?_ ?_
  · intro (c1 : a ≤ 0)
    show post (some (0, 0, (-1), (-1), (-1))) (xa_up M 60 21 0)
    exact k _ _ (xm_cor_f (by omega) xm_cor_r)
  · intro (c1 : 0 < a)
    refine And.intro ?_ ?_
    · intro (c2 : a < (xa_ib 6 1 (M 60 11)))
      refine And.intro ?_ ?_
      · intro (c3 : ((M 60 16) - (M 60 15)) ≤ 60)
        show Q 40 [(2, (0, 0, 0, 0, 0)), (0, (2, 60, 0, 0, 0)), (1, (0, 0, (-2147483648), 2147483647, a))] [] (xa_up M 60 21 0)
        refine hgo.2.1 40 _ [(2, (0, 0, 0, 401, 0)), (1, (0, 0, (-2147483648), 2147483647, a)), (0, (2, 60, 0, 0, 0))] _ _ (xa_subI rfl rfl (fun _ _ _ _ => by omega) (xa_subI rfl rfl (fun _ _ _ _ => by omega) (xa_subR rfl xa_sub0))) ?_
        exact loop0 402 0 a (xa_up M 60 21 0) (by omega) (xm_cor_f (by omega) xm_cor_r) (by omega)
      · intro (c3 : 60 < ((M 60 16) - (M 60 15)))
        show post (some (0, 0, (-4), (-4), (-4))) (xa_up M 60 21 0)
        exact k _ _ (xm_cor_f (by omega) xm_cor_r)
    · intro (c2 : (xa_ib 6 1 (M 60 11)) ≤ a)
      show post (some (0, 0, (-1), (-1), (-1))) (xa_up M 60 21 0)
      exact k _ _ (xm_cor_f (by omega) xm_cor_r)
theorem ms_nearest {A : Nat → Nat} {h0 : g_H} {d : Nat} {M : xa_M} {post : Option xa_V → xa_M → Prop} {l1 u1 : Int} {a : Int} (hI : xm_Inv M) (k : ∀ (o : Option xa_V) (M1 : xa_M), xm_cor M M1 → post o M1) : xa_C xm_I A h0 (d + 4) 259 [(2, 60, 0, 0, 0), (0, 0, l1, u1, a)] M post := by
  refine xa_C_arg [(2, 60, 0, 0, 0), (0, 0, (-2147483648), 2147483647, a)] (xa_svR (xa_svI (fun _ _ _ _ => by omega) xa_sv0)) ?_
  refine xa_meth (Q0 := (10, 1, false, 0, 0, 12)) (by decide +kernel) ⟨rfl, rfl⟩ (full := s_c_259) rfl rfl ?_
  intro hM hv Q hgo
  have b0 := xm_f0 hM
  have b6 := xm_f6 hM
  have b61 := xm_f61 hM
  have b11 := xm_f11 hM
  have b15 := xm_f15 hM
  have b16 := xm_f16 hM
  have hlh := hI.2.2.2.1
  have loop0 : ∀ (n : Nat) (x6 x4 x3 x2 x1 : Int) (M1 : xa_M), 10 ≤ x6 ∧ x6 ≤ 401 → 0 ≤ x4 ∧ x4 ≤ 800000 → 0 ≤ x3 ∧ x3 ≤ 400 → 0 ≤ x2 ∧ x2 ≤ 400 → 0 ≤ x1 ∧ x1 ≤ 7 → xm_cor M M1 → x1 < M 60 11 → (x6 = M 60 15 ∧ x2 = 0) ∨ (10 ≤ x2 ∧ 10 ≤ x3) → 401 - x6 < (n : Int) → Q 28 [(6, (0, 0, 10, 401, x6)), (4, (1, 0, 0, 800000, x4)), (3, (0, 0, 0, 400, x3)), (2, (0, 0, 0, 400, x2)), (1, (0, 0, 0, 7, x1)), (0, (2, 60, 0, 0, 0))] [] M1 := by
    intro n
    induction n with
    | zero => intro x6 x4 x3 x2 x1 M1 b6 b4 b3 b2 b1 hc hx1 hJ hms; omega
    | succ n ih0 =>
      intro x6 x4 x3 x2 x1 M1 b6 b4 b3 b2 b1 hc hx1 hJ hms0
      have e0 := xm_corf hc 0 (by omega)
      have e6 := xm_corf hc 6 (by omega)
      have e61 := xm_corf hc 61 (by omega)
      have e11 := xm_corf hc 11 (by omega)
      have e15 := xm_corf hc 15 (by omega)
      have e16 := xm_corf hc 16 (by omega)
      refine hgo.2.2 _ _ _ _ (fun hM1 _ => ?_)
      have t71 := xm_t71 hM1 x1 (by omega) (by omega)
      have hp1 := (xm_Inv_cor hc hI).2.2.1 x1 (by omega) (by omega)
      have hmm : 10 ≤ x3 → 1 ≤ x3 * M1 71 x1 ∧ x3 * M1 71 x1 ≤ 400 * 2000 := fun h => xm_mulp (by omega) (by omega) (by omega) (by omega)
      have loop1 : ∀ (n : Nat) (x7 x4 x3 x2 : Int) (M1 : xa_M), 10 ≤ x7 ∧ x7 ≤ 401 → 0 ≤ x4 ∧ x4 ≤ 800000 → 0 ≤ x3 ∧ x3 ≤ 400 → 0 ≤ x2 ∧ x2 ≤ 400 → 10 ≤ x6 ∧ x6 ≤ 400 → 0 ≤ x1 ∧ x1 ≤ 7 → xm_cor M M1 → x1 < M 60 11 → ((x6 = M 60 15 ∧ x7 = M 60 15) ∧ x2 = 0) ∨ (10 ≤ x2 ∧ 10 ≤ x3) → 401 - x7 < (n : Int) → Q 43 [(7, (0, 0, 10, 401, x7)), (6, (0, 0, 10, 400, x6)), (4, (1, 0, 0, 800000, x4)), (3, (0, 0, 0, 400, x3)), (2, (0, 0, 0, 400, x2)), (1, (0, 0, 0, 7, x1)), (0, (2, 60, 0, 0, 0))] [] M1 := by
        intro n
        induction n with
        | zero => intro x7 x4 x3 x2 M1 b7 b4 b3 b2 f6 f1 hc hx1b hJ2 hms; omega
        | succ n ih1 =>
          intro x7 x4 x3 x2 M1 b7 b4 b3 b2 f6 f1 hc hx1b hJ2 hms1
          have e0 := xm_corf hc 0 (by omega)
          have e6 := xm_corf hc 6 (by omega)
          have e61 := xm_corf hc 61 (by omega)
          have e11 := xm_corf hc 11 (by omega)
          have e15 := xm_corf hc 15 (by omega)
          have e16 := xm_corf hc 16 (by omega)
          refine hgo.2.2 _ _ _ _ (fun hM1 _ => ?_)
          have t71 := xm_t71 hM1 x1 (by omega) (by omega)
          have t70 := xm_t70 hM1 x1 (by omega) (by omega)
          have q6 := xm_mulq (p := x6) (q := M1 71 x1) (by omega) (by omega) (by omega) (by omega)
          have q7 : x7 ≤ 400 → 0 ≤ x7 * M1 70 x1 ∧ x7 * M1 70 x1 ≤ 800000 := fun h => xm_mulq (by omega) (by omega) (by omega) (by omega)
          refine hgo.1 46 [28, 43] 43 _ _ _ ?_
          refine And.intro ?_ ?_
          · intro (c1 : (M1 60 16) < x7)
            show Q 28 [(6, (0, 0, 11, 401, x6 + 1)), (7, (0, 0, 10, 401, x7)), (4, (1, 0, 0, 800000, x4)), (3, (0, 0, 0, 400, x3)), (2, (0, 0, 0, 400, x2)), (1, (0, 0, 0, 7, x1)), (0, (2, 60, 0, 0, 0))] [] M1
            refine hgo.2.1 28 _ [(6, (0, 0, 10, 401, x6 + 1)), (4, (1, 0, 0, 800000, x4)), (3, (0, 0, 0, 400, x3)), (2, (0, 0, 0, 400, x2)), (1, (0, 0, 0, 7, x1)), (0, (2, 60, 0, 0, 0))] _ _ (xa_subI rfl rfl (fun _ _ _ _ => by omega) (xa_subL rfl rfl (fun _ _ _ _ => by omega) (xa_subI rfl rfl (fun _ _ _ _ => by omega) (xa_subI rfl rfl (fun _ _ _ _ => by omega) (xa_subI rfl rfl (fun _ _ _ _ => by omega) (xa_subR rfl xa_sub0)))))) ?_
            exact ih0 (x6 + 1) x4 x3 x2 x1 M1 (by omega) (by omega) (by omega) (by omega) (by omega) hc (by omega) (by omega) (by omega)
          · intro (c1 : x7 ≤ (M1 60 16))
            show xa_C xm_I A h0 _ 56 [(1, 0, (-802000), 800000, (x6 * (M1 71 x1)) - (x7 * (M1 70 x1)))] M1 _
            refine ct_absb 802000 (by decide) (by decide) (by decide) (fun a2 ea2 => ?_)
            refine And.intro ?_ ?_
            · intro (c3 : x2 ≤ 0)
              show Q 43 [(7, (0, 0, 11, 402, x7 + 1)), (4, (1, 0, 0, 802000, a2)), (3, (0, 0, 10, 401, x7)), (2, (0, 0, 10, 400, x6)), (8, (1, 0, 0, 802000, a2)), (6, (0, 0, 10, 400, x6)), (1, (0, 0, 0, 7, x1)), (0, (2, 60, 0, 0, 0))] [] M1
              refine hgo.2.1 43 _ [(7, (0, 0, 10, 401, x7 + 1)), (6, (0, 0, 10, 400, x6)), (4, (1, 0, 0, 800000, a2)), (3, (0, 0, 0, 400, x7)), (2, (0, 0, 0, 400, x6)), (1, (0, 0, 0, 7, x1)), (0, (2, 60, 0, 0, 0))] _ _ (xa_subI rfl rfl (fun _ _ _ _ => by omega) (xa_subI rfl rfl (fun _ _ _ _ => by omega) (xa_subL rfl rfl (fun _ _ _ _ => by omega) (xa_subI rfl rfl (fun _ _ _ _ => by omega) (xa_subI rfl rfl (fun _ _ _ _ => by omega) (xa_subI rfl rfl (fun _ _ _ _ => by omega) (xa_subR rfl xa_sub0))))))) ?_
              exact ih1 (x7 + 1) a2 x7 x6 M1 (by omega) (by omega) (by omega) (by omega) (by omega) (by omega) hc (by omega) (by omega) (by omega)
            · intro (c3 : 0 < x2)
              show xa_C xm_I A h0 _ 260 [(1, 0, 0, 802000, a2), (0, 0, 10, 400, x6), (0, 0, 10, 401, x7), (1, 0, 0, 800000, x4), (0, 0, 0, 400, x2), (0, 0, 0, 400, x3)] M1 _
              refine ct_isNearer (by omega) (by omega) (by omega) (by omega) (by omega) (by omega) (fun r4 br4 => ?_)
              refine And.intro ?_ ?_
              · intro (c5 : ¬ r4 = 0)
                show Q 43 [(7, (0, 0, 11, 402, x7 + 1)), (4, (1, 0, 0, 802000, a2)), (3, (0, 0, 10, 401, x7)), (2, (0, 0, 10, 400, x6)), (8, (1, 0, 0, 802000, a2)), (6, (0, 0, 10, 400, x6)), (1, (0, 0, 0, 7, x1)), (0, (2, 60, 0, 0, 0))] [] M1
                refine hgo.2.1 43 _ [(7, (0, 0, 10, 401, x7 + 1)), (6, (0, 0, 10, 400, x6)), (4, (1, 0, 0, 800000, a2)), (3, (0, 0, 0, 400, x7)), (2, (0, 0, 0, 400, x6)), (1, (0, 0, 0, 7, x1)), (0, (2, 60, 0, 0, 0))] _ _ (xa_subI rfl rfl (fun _ _ _ _ => by omega) (xa_subI rfl rfl (fun _ _ _ _ => by omega) (xa_subL rfl rfl (fun _ _ _ _ => by omega) (xa_subI rfl rfl (fun _ _ _ _ => by omega) (xa_subI rfl rfl (fun _ _ _ _ => by omega) (xa_subI rfl rfl (fun _ _ _ _ => by omega) (xa_subR rfl xa_sub0))))))) ?_
                exact ih1 (x7 + 1) a2 x7 x6 M1 (by omega) (by omega) (by omega) (by omega) (by omega) (by omega) hc (by omega) (by omega) (by omega)
              · intro (c5 : r4 = 0)
                show Q 43 [(7, (0, 0, 11, 402, x7 + 1)), (8, (1, 0, 0, 802000, a2)), (6, (0, 0, 10, 400, x6)), (4, (1, 0, 0, 800000, x4)), (3, (0, 0, 0, 400, x3)), (2, (0, 0, 0, 400, x2)), (1, (0, 0, 0, 7, x1)), (0, (2, 60, 0, 0, 0))] [] M1
                refine hgo.2.1 43 _ [(7, (0, 0, 10, 401, x7 + 1)), (6, (0, 0, 10, 400, x6)), (4, (1, 0, 0, 800000, x4)), (3, (0, 0, 0, 400, x3)), (2, (0, 0, 0, 400, x2)), (1, (0, 0, 0, 7, x1)), (0, (2, 60, 0, 0, 0))] _ _ (xa_subI rfl rfl (fun _ _ _ _ => by omega) (xa_subI rfl rfl (fun _ _ _ _ => by omega) (xa_subL rfl rfl (fun _ _ _ _ => by omega) (xa_subI rfl rfl (fun _ _ _ _ => by omega) (xa_subI rfl rfl (fun _ _ _ _ => by omega) (xa_subI rfl rfl (fun _ _ _ _ => by omega) (xa_subR rfl xa_sub0))))))) ?_
                exact ih1 (x7 + 1) x4 x3 x2 M1 (by omega) (by omega) (by omega) (by omega) (by omega) (by omega) hc (by omega) (by omega) (by omega)
      refine hgo.1 57 [28, 43] 28 _ _ _ ?_
      refine And.intro ?_ ?_
      · intro (c1 : (M1 60 16) < x6)
        show xa_C xm_I A h0 _ 231 [(2, 60, 0, 0, 0), (1, 0, 0, 400, x2)] (xa_up M1 60 20 0) _
        refine ct_tell (n := 0) (by first | rfl | (simp [xa_up]; done) | omega) (by omega) (by omega) ?_
        show xa_C xm_I A h0 _ 231 [(2, 60, 0, 0, 0), (1, 0, 0, 400, x3)] (xa_up (xa_up (xa_up M1 60 20 0) 74 0 x2) 60 20 1) _
        refine ct_tell (n := 1) (by first | rfl | (simp [xa_up]; done) | omega) (by omega) (by omega) ?_
        show xa_C xm_I A h0 _ 230 [(2, 60, 0, 0, 0), (1, 0, (-800000), 800000, (x2 * (M1 71 x1)) - (x3 * (M1 70 x1))), (1, 0, 0, 800000, x3 * (M1 71 x1))] (xa_up (xa_up (xa_up (xa_up (xa_up M1 60 20 0) 74 0 x2) 60 20 1) 74 1 x3) 60 20 2) _
        refine ct_tellPart (n := 2) (by first | rfl | (simp [xa_up]; done)) (by decide) (by decide) (by decide) (by omega) (fun g2 eg2 pg2 qg2 => ?_)
        refine And.intro ?_ ?_
        · intro (c3 : ((x2 * (M1 71 x1)) - (x3 * (M1 70 x1))) ≤ 0)
          refine And.intro ?_ ?_
          · intro (c4 : 0 ≤ ((x2 * (M1 71 x1)) - (x3 * (M1 70 x1))))
            show post (some (0, 0, 0, 0, 0)) (xa_up (xa_up (xa_up (xa_up (xa_up (xa_up (xa_up (xa_up (xa_up M1 60 20 0) 74 0 x2) 60 20 1) 74 1 x3) 60 20 2) 74 2 (((x2 * (M1 71 x1)) - (x3 * (M1 70 x1))).tdiv g2)) 60 20 3) 74 3 ((x3 * (M1 71 x1)).tdiv g2)) 60 20 4)
            exact k _ _ (xm_cor_f (by omega) (xm_cor_a rfl (xm_cor_f (by omega) (xm_cor_a rfl (xm_cor_f (by omega) (xm_cor_a rfl (xm_cor_f (by omega) (xm_cor_a rfl (xm_cor_f (by omega) hc)))))))))
          · intro (c4 : ((x2 * (M1 71 x1)) - (x3 * (M1 70 x1))) < 0)
            show post (some (0, 0, 2, 2, 2)) (xa_up (xa_up (xa_up (xa_up (xa_up (xa_up (xa_up (xa_up (xa_up M1 60 20 0) 74 0 x2) 60 20 1) 74 1 x3) 60 20 2) 74 2 (((x2 * (M1 71 x1)) - (x3 * (M1 70 x1))).tdiv g2)) 60 20 3) 74 3 ((x3 * (M1 71 x1)).tdiv g2)) 60 20 4)
            exact k _ _ (xm_cor_f (by omega) (xm_cor_a rfl (xm_cor_f (by omega) (xm_cor_a rfl (xm_cor_f (by omega) (xm_cor_a rfl (xm_cor_f (by omega) (xm_cor_a rfl (xm_cor_f (by omega) hc)))))))))
        · intro (c3 : 0 < ((x2 * (M1 71 x1)) - (x3 * (M1 70 x1))))
          show post (some (0, 0, 1, 1, 1)) (xa_up (xa_up (xa_up (xa_up (xa_up (xa_up (xa_up (xa_up (xa_up M1 60 20 0) 74 0 x2) 60 20 1) 74 1 x3) 60 20 2) 74 2 (((x2 * (M1 71 x1)) - (x3 * (M1 70 x1))).tdiv g2)) 60 20 3) 74 3 ((x3 * (M1 71 x1)).tdiv g2)) 60 20 4)
          exact k _ _ (xm_cor_f (by omega) (xm_cor_a rfl (xm_cor_f (by omega) (xm_cor_a rfl (xm_cor_f (by omega) (xm_cor_a rfl (xm_cor_f (by omega) (xm_cor_a rfl (xm_cor_f (by omega) hc)))))))))
      · intro (c1 : x6 ≤ (M1 60 16))
        show Q 43 [(7, (0, 0, 10, 400, M1 60 15)), (6, (0, 0, 10, 401, x6)), (4, (1, 0, 0, 800000, x4)), (3, (0, 0, 0, 400, x3)), (2, (0, 0, 0, 400, x2)), (1, (0, 0, 0, 7, x1)), (0, (2, 60, 0, 0, 0))] [] M1
        refine hgo.2.1 43 _ [(7, (0, 0, 10, 401, M1 60 15)), (6, (0, 0, 10, 400, x6)), (4, (1, 0, 0, 800000, x4)), (3, (0, 0, 0, 400, x3)), (2, (0, 0, 0, 400, x2)), (1, (0, 0, 0, 7, x1)), (0, (2, 60, 0, 0, 0))] _ _ (xa_subI rfl rfl (fun _ _ _ _ => by omega) (xa_subI rfl rfl (fun _ _ _ _ => by omega) (xa_subL rfl rfl (fun _ _ _ _ => by omega) (xa_subI rfl rfl (fun _ _ _ _ => by omega) (xa_subI rfl rfl (fun _ _ _ _ => by omega) (xa_subI rfl rfl (fun _ _ _ _ => by omega) (xa_subR rfl xa_sub0))))))) ?_
        exact loop1 402 (M1 60 15) x4 x3 x2 M1 (by omega) (by omega) (by omega) (by omega) (by omega) (by omega) hc (by omega) (by omega) (by omega)
  refine hgo.1 13 [15] 0 _ _ _ ?_
  show xa_C xm_I A h0 _ 239 [(2, 60, 0, 0, 0), (0, 0, (-2147483648), 2147483647, a)] (xa_up M 60 21 0) _
  refine ct_isPeriod ?_ ?_
  · intro (i1 : 0 ≤ a ∧ a < (M 60 11))
    show Q 15 [(0, (2, 60, 0, 0, 0)), (1, (0, 0, (-2147483648), 2147483647, a))] [] (xa_up M 60 21 0)
    refine hgo.2.1 15 _ [(1, (0, 0, 0, 7, a)), (0, (2, 60, 0, 0, 0))] _ _ (xa_subI rfl rfl (fun _ _ _ _ => by omega) (xa_subR rfl xa_sub0)) ?_
    refine hgo.1 14 [28, 43] 15 _ _ _ ?_
    show Q 28 [(6, (0, 0, 10, 400, M 60 15)), (4, (1, 0, 0, 0, 0)), (3, (0, 0, 0, 0, 0)), (2, (0, 0, 0, 0, 0)), (1, (0, 0, 0, 7, a)), (0, (2, 60, 0, 0, 0))] [] (xa_up M 60 21 0)
    refine hgo.2.1 28 _ [(6, (0, 0, 10, 401, M 60 15)), (4, (1, 0, 0, 800000, 0)), (3, (0, 0, 0, 400, 0)), (2, (0, 0, 0, 400, 0)), (1, (0, 0, 0, 7, a)), (0, (2, 60, 0, 0, 0))] _ _ (xa_subI rfl rfl (fun _ _ _ _ => by omega) (xa_subL rfl rfl (fun _ _ _ _ => by omega) (xa_subI rfl rfl (fun _ _ _ _ => by omega) (xa_subI rfl rfl (fun _ _ _ _ => by omega) (xa_subI rfl rfl (fun _ _ _ _ => by omega) (xa_subR rfl xa_sub0)))))) ?_
    exact loop0 402 (M 60 15) 0 0 0 a (xa_up M 60 21 0) (by omega) (by omega) (by omega) (by omega) (by omega) (xm_cor_f (by omega) xm_cor_r) (by omega) (by omega) (by omega)
  · intro (i1 : ¬ (0 ≤ a ∧ a < (M 60 11)))
    show post (some (0, 0, (-1), (-1), (-1))) (xa_up M 60 21 0)
    exact k _ _ (xm_cor_f (by omega) xm_cor_r)
theorem ms_meets {A : Nat → Nat} {h0 : g_H} {d : Nat} {M : xa_M} {post : Option xa_V → xa_M → Prop} {l1 u1 : Int} {a : Int} (hI : xm_Inv M) (k : ∀ (o : Option xa_V) (M1 : xa_M), xm_cor M M1 → post o M1) : xa_C xm_I A h0 (d + 4) 278 [(2, 60, 0, 0, 0), (0, 0, l1, u1, a)] M post := by
  refine xa_C_arg [(2, 60, 0, 0, 0), (0, 0, (-2147483648), 2147483647, a)] (xa_svR (xa_svI (fun _ _ _ _ => by omega) xa_sv0)) ?_
  refine xa_meth (Q0 := (7, 1, false, 0, 0, 12)) (by decide +kernel) ⟨rfl, rfl⟩ (full := s_c_278) rfl rfl ?_
  intro hM hv Q hgo
  have b0 := xm_f0 hM
  have b6 := xm_f6 hM
  have b61 := xm_f61 hM
  have b11 := xm_f11 hM
  have b15 := xm_f15 hM
  have b16 := xm_f16 hM
  have hlh := hI.2.2.2.1
  have loop1 : ∀ (n : Nat) (x4 x2 x1 : Int) (M1 : xa_M), 0 ≤ x4 ∧ x4 ≤ 8 → 1 ≤ x2 ∧ x2 ≤ 1000000 → xm_cor M M1 → M1 60 20 ≤ x4 → 8 - x4 < (n : Int) → Q 114 [(4, (0, 0, 0, 8, x4)), (2, (1, 0, 1, 1000000, x2)), (1, (0, 0, (-2147483648), 2147483647, x1)), (0, (2, 60, 0, 0, 0))] [] M1 := by
    intro n
    induction n with
    | zero => intro x4 x2 x1 M1 b4 b2 hc h20 hms; omega
    | succ n ih1 =>
      intro x4 x2 x1 M1 b4 b2 hc h20 hms1
      have e0 := xm_corf hc 0 (by omega)
      have e6 := xm_corf hc 6 (by omega)
      have e61 := xm_corf hc 61 (by omega)
      have e11 := xm_corf hc 11 (by omega)
      have e15 := xm_corf hc 15 (by omega)
      have e16 := xm_corf hc 16 (by omega)
      refine hgo.2.2 _ _ _ _ (fun hM1 _ => ?_)
      have t70 : x4 < M1 60 11 → 0 ≤ M1 70 x4 ∧ M1 70 x4 ≤ 2000 := fun h => xm_t70 hM1 x4 (by omega) (by omega)
      have t71 : x4 < M1 60 11 → 0 ≤ M1 71 x4 ∧ M1 71 x4 ≤ 2000 := fun h => xm_t71 hM1 x4 (by omega) (by omega)
      have hpp := (xm_Inv_cor hc hI).2.2.1 x4 (by omega)
      have b20 := xm_f20 hM1
      refine hgo.1 30 [26, 114] 114 _ _ _ ?_
      refine And.intro ?_ ?_
      · intro (c1 : (M1 60 11) ≤ x4)
        show post (some (0, 0, 1, 1000000, x2)) M1
        exact k _ _ hc
      · intro (c1 : x4 < (M1 60 11))
        show xa_C xm_I A h0 _ 248 [(0, 0, (-2147483648), 2147483647, x1), (0, 0, 0, 8, x4)] M1 _
        refine ct_has (fun r2 zr2 er2 => ?_)
        refine And.intro ?_ ?_
        · intro (c3 : r2 = 0)
          show Q 114 [(4, (0, 0, 1, 9, x4 + 1)), (2, (1, 0, 1, 1000000, x2)), (1, (0, 0, (-2147483648), 2147483647, x1)), (0, (2, 60, 0, 0, 0))] [] M1
          refine hgo.2.1 114 _ [(4, (0, 0, 0, 8, x4 + 1)), (2, (1, 0, 1, 1000000, x2)), (1, (0, 0, (-2147483648), 2147483647, x1)), (0, (2, 60, 0, 0, 0))] _ _ (xa_subI rfl rfl (fun _ _ _ _ => by omega) (xa_subL rfl rfl (fun _ _ _ _ => by omega) (xa_subI rfl rfl (fun _ _ _ _ => by omega) (xa_subR rfl xa_sub0)))) ?_
          exact ih1 (x4 + 1) x2 x1 M1 (by omega) (by omega) hc (by first | omega | (simp [xa_up]; done) | (simp [xa_up]; omega)) (by omega)
        · intro (c3 : ¬ r2 = 0)
          refine And.intro (show 0 ≤ x4 ∧ x4 < 8 by omega) ?_
          refine And.intro (show 0 ≤ x4 ∧ x4 < 8 by omega) ?_
          refine And.intro (show 0 < (M1 71 x4) by omega) ?_
          show xa_C xm_I A h0 _ 231 [(2, 60, 0, 0, 0), (1, 0, 0, 2000000000, (x2 * (M1 70 x4)) / (M1 71 x4))] M1 _
          refine ct_tell (n := M1 60 20) (by first | rfl | (simp [xa_up]; done) | omega) (by omega) (by omega) ?_
          show Q 114 [(4, (0, 0, 1, 9, x4 + 1)), (2, (1, 0, 1, 1000000, x2)), (1, (0, 0, (-2147483648), 2147483647, x1)), (0, (2, 60, 0, 0, 0))] [] (xa_up (xa_up M1 74 (M1 60 20) ((x2 * (M1 70 x4)) / (M1 71 x4))) 60 20 ((M1 60 20) + 1))
          refine hgo.2.1 114 _ [(4, (0, 0, 0, 8, x4 + 1)), (2, (1, 0, 1, 1000000, x2)), (1, (0, 0, (-2147483648), 2147483647, x1)), (0, (2, 60, 0, 0, 0))] _ _ (xa_subI rfl rfl (fun _ _ _ _ => by omega) (xa_subL rfl rfl (fun _ _ _ _ => by omega) (xa_subI rfl rfl (fun _ _ _ _ => by omega) (xa_subR rfl xa_sub0)))) ?_
          exact ih1 (x4 + 1) x2 x1 (xa_up (xa_up M1 74 (M1 60 20) ((x2 * (M1 70 x4)) / (M1 71 x4))) 60 20 ((M1 60 20) + 1)) (by omega) (by omega) (xm_cor_f (by omega) (xm_cor_a rfl hc)) (by first | omega | (simp [xa_up]; done) | (simp [xa_up]; omega)) (by omega)
  have loop0 : ∀ (n : Nat) (x4 x2 x1 : Int) (M1 : xa_M), 0 ≤ x4 ∧ x4 ≤ 8 → 1 ≤ x2 ∧ x2 ≤ 1000000 → xm_cor M M1 → 8 - x4 < (n : Int) → Q 26 [(4, (0, 0, 0, 8, x4)), (2, (1, 0, 1, 1000000, x2)), (1, (0, 0, (-2147483648), 2147483647, x1)), (0, (2, 60, 0, 0, 0))] [] M1 := by
    intro n
    induction n with
    | zero => intro x4 x2 x1 M1 b4 b2 hc hms; omega
    | succ n ih0 =>
      intro x4 x2 x1 M1 b4 b2 hc hms0
      have e0 := xm_corf hc 0 (by omega)
      have e6 := xm_corf hc 6 (by omega)
      have e61 := xm_corf hc 61 (by omega)
      have e11 := xm_corf hc 11 (by omega)
      have e15 := xm_corf hc 15 (by omega)
      have e16 := xm_corf hc 16 (by omega)
      refine hgo.2.2 _ _ _ _ (fun hM1 _ => ?_)
      have t70 : x4 < M1 60 11 → 0 ≤ M1 70 x4 ∧ M1 70 x4 ≤ 2000 := fun h => xm_t70 hM1 x4 (by omega) (by omega)
      have t71 : x4 < M1 60 11 → 0 ≤ M1 71 x4 ∧ M1 71 x4 ≤ 2000 := fun h => xm_t71 hM1 x4 (by omega) (by omega)
      have hpp := (xm_Inv_cor hc hI).2.2.1 x4 (by omega)
      refine hgo.1 44 [26, 114] 26 _ _ _ ?_
      refine And.intro ?_ ?_
      · intro (c1 : (M1 60 11) ≤ x4)
        show Q 114 [(4, (0, 0, 0, 0, 0)), (2, (1, 0, 1, 1000000, x2)), (1, (0, 0, (-2147483648), 2147483647, x1)), (0, (2, 60, 0, 0, 0))] [] (xa_up M1 60 20 0)
        refine hgo.2.1 114 _ [(4, (0, 0, 0, 8, 0)), (2, (1, 0, 1, 1000000, x2)), (1, (0, 0, (-2147483648), 2147483647, x1)), (0, (2, 60, 0, 0, 0))] _ _ (xa_subI rfl rfl (fun _ _ _ _ => by omega) (xa_subL rfl rfl (fun _ _ _ _ => by omega) (xa_subI rfl rfl (fun _ _ _ _ => by omega) (xa_subR rfl xa_sub0)))) ?_
        exact loop1 9 0 x2 x1 (xa_up M1 60 20 0) (by omega) (by omega) (xm_cor_f (by omega) hc) (by first | omega | (simp [xa_up]; done) | (simp [xa_up]; omega)) (by omega)
      · intro (c1 : x4 < (M1 60 11))
        show xa_C xm_I A h0 _ 248 [(0, 0, (-2147483648), 2147483647, x1), (0, 0, 0, 8, x4)] M1 _
        refine ct_has (fun r2 zr2 er2 => ?_)
        refine And.intro ?_ ?_
        · intro (c3 : ¬ r2 = 0)
          refine And.intro (show 0 ≤ x4 ∧ x4 < 8 by omega) ?_
          refine And.intro (show 0 ≤ x4 ∧ x4 < 8 by omega) ?_
          refine And.intro (show 0 ≤ x4 ∧ x4 < 8 by omega) ?_
          show xa_C xm_I A h0 _ 229 [(1, 0, 0, 2000, M1 70 x4), (1, 0, 0, 2000, M1 71 x4)] M1 _
          refine ct_gcd3 (by omega) (by omega) (fun g4 eg4 pg4 qg4 ug4 => ?_)
          have dg4 := xm_edb (g := g4) (y := M1 71 x4) (B := 2000) (by omega) (by omega) (by omega)
          show xa_C xm_I A h0 _ 229 [(1, 0, 1, 1000000, x2), (1, 0, 0, 2000, (M1 71 x4) / g4)] M1 _
          refine ct_gcd3 (by omega) (by omega) (fun g5 eg5 pg5 qg5 ug5 => ?_)
          have dg5 := xm_edb (g := g5) (y := x2) (B := 1000000) (by omega) (by omega) (by omega)
          have mg5 := xm_mulp (p := x2 / g5) (q := M1 71 x4 / g4) (a := 1000000) (b := 2000) (by omega) (by omega) (by omega) (by omega)
          have zg5 := xa_w64_id (n := (x2 / g5) * (M1 71 x4 / g4)) (by omega) (by omega)
          refine And.intro ?_ ?_
          · intro (c6 : ((x2 / g5) * ((M1 71 x4) / g4)) ≤ 1000000)
            show Q 26 [(4, (0, 0, 1, 9, x4 + 1)), (2, (1, 0, 0, 2000000000, (x2 / g5) * ((M1 71 x4) / g4))), (5, (1, 0, 0, 2000, (M1 71 x4) / g4)), (1, (0, 0, (-2147483648), 2147483647, x1)), (0, (2, 60, 0, 0, 0))] [] M1
            refine hgo.2.1 26 _ [(4, (0, 0, 0, 8, x4 + 1)), (2, (1, 0, 1, 1000000, (x2 / g5) * ((M1 71 x4) / g4))), (1, (0, 0, (-2147483648), 2147483647, x1)), (0, (2, 60, 0, 0, 0))] _ _ (xa_subI rfl rfl (fun _ _ _ _ => by omega) (xa_subL rfl rfl (fun _ _ _ _ => by omega) (xa_subI rfl rfl (fun _ _ _ _ => by omega) (xa_subR rfl xa_sub0)))) ?_
            exact ih0 (x4 + 1) ((x2 / g5) * ((M1 71 x4) / g4)) x1 M1 (by omega) (by omega) hc (by omega)
          · intro (c6 : 1000000 < ((x2 / g5) * ((M1 71 x4) / g4)))
            show post (some (0, 0, (-2), (-2), (-2))) M1
            exact k _ _ hc
        · intro (c3 : r2 = 0)
          show Q 26 [(4, (0, 0, 1, 9, x4 + 1)), (2, (1, 0, 1, 1000000, x2)), (1, (0, 0, (-2147483648), 2147483647, x1)), (0, (2, 60, 0, 0, 0))] [] M1
          refine hgo.2.1 26 _ [(4, (0, 0, 0, 8, x4 + 1)), (2, (1, 0, 1, 1000000, x2)), (1, (0, 0, (-2147483648), 2147483647, x1)), (0, (2, 60, 0, 0, 0))] _ _ (xa_subI rfl rfl (fun _ _ _ _ => by omega) (xa_subL rfl rfl (fun _ _ _ _ => by omega) (xa_subI rfl rfl (fun _ _ _ _ => by omega) (xa_subR rfl xa_sub0)))) ?_
          exact ih0 (x4 + 1) x2 x1 M1 (by omega) (by omega) hc (by omega)
  refine hgo.1 20 [26, 114] 0 _ _ _ ?_
  refine And.intro ?_ ?_
  · intro (c1 : a ≤ 0)
    show post (some (0, 0, (-1), (-1), (-1))) (xa_up M 60 21 0)
    exact k _ _ (xm_cor_f (by omega) xm_cor_r)
  · intro (c1 : 0 < a)
    refine And.intro ?_ ?_
    · intro (c2 : a < (xa_ib 6 1 (M 60 11)))
      show Q 26 [(4, (0, 0, 0, 0, 0)), (2, (1, 0, 1, 1, 1)), (0, (2, 60, 0, 0, 0)), (1, (0, 0, (-2147483648), 2147483647, a))] [] (xa_up M 60 21 0)
      refine hgo.2.1 26 _ [(4, (0, 0, 0, 8, 0)), (2, (1, 0, 1, 1000000, 1)), (1, (0, 0, (-2147483648), 2147483647, a)), (0, (2, 60, 0, 0, 0))] _ _ (xa_subI rfl rfl (fun _ _ _ _ => by omega) (xa_subL rfl rfl (fun _ _ _ _ => by omega) (xa_subI rfl rfl (fun _ _ _ _ => by omega) (xa_subR rfl xa_sub0)))) ?_
      exact loop0 9 0 1 a (xa_up M 60 21 0) (by omega) (by omega) (xm_cor_f (by omega) xm_cor_r) (by omega)
    · intro (c2 : (xa_ib 6 1 (M 60 11)) ≤ a)
      show post (some (0, 0, (-1), (-1), (-1))) (xa_up M 60 21 0)
      exact k _ _ (xm_cor_f (by omega) xm_cor_r)
