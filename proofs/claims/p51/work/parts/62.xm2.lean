-- the model's turns (made by wip/p24/xa/xm2.py)
set_option maxRecDepth 20000
def xm_meshed (M : xa_M) (a b : Int) : Prop := ∃ m, 0 ≤ m ∧ m < M 60 6 ∧ (M 66 m = a ∧ M 67 m = b ∨ M 66 m = b ∧ M 67 m = a)
def xm_led (M : xa_M) (a b c u l : Int) : Prop := ∃ g : Int, g = (Int.gcd (-(M 75 a) * M 63 b) (M 76 a * M 63 c) : Int) ∧ u = (-(M 75 a) * M 63 b).tdiv g ∧ l = (M 76 a * M 63 c) / g
theorem xm_mulb {p q : Int} (h1 : -1000000000000000 ≤ p) (h2 : p ≤ 1000000000000000) (h3 : 0 ≤ q) (h4 : q ≤ 400) : -400000000000000000 ≤ p * q ∧ p * q ≤ 400000000000000000 := xa_mul_ok h1 h2 h3 h4
theorem xm_tdb {x g B : Int} (hg : 1 ≤ g) (h1 : -B ≤ x) (h2 : x ≤ B) : -B ≤ x.tdiv g ∧ x.tdiv g ≤ B := by
  obtain ⟨d1, d2, -⟩ := xa_tdv (m := x) (n := g) (B := B + 1) (by omega) (by omega) (by omega)
  have e := Int.natAbs_tdiv_le_natAbs x g
  omega
theorem xm_edb {y g B : Int} (hg : 1 ≤ g) (h : g ≤ y) (h2 : y ≤ B) : 1 ≤ y / g ∧ y / g ≤ B := by
  have e1 := Int.le_ediv_of_mul_le (show 0 < g by omega) (show 1 * g ≤ y by omega)
  have e2 := Int.ediv_le_self g (show 0 ≤ y by omega)
  omega
theorem ct_areMeshed {A : Nat → Nat} {h0 : g_H} {d : Nat} {M : xa_M} {post : Option xa_V → xa_M → Prop} {l1 u1 l2 u2 : Int} {a b : Int} (k : ∀ r : Int, (r = 0 ∨ r = 1) → (r = 1 ↔ xm_meshed M a b) → post (some (0, 0, 0, 1, r)) M) : xa_C xm_I A h0 (d + 1) 221 [(2, 60, 0, 0, 0), (0, 0, l1, u1, a), (0, 0, l2, u2, b)] M post := by
  refine xa_C_arg [(2, 60, 0, 0, 0), (0, 0, (-2147483648), 2147483647, a), (0, 0, (-2147483648), 2147483647, b)] (xa_svR (xa_svI (fun _ _ _ _ => by omega) (xa_svI (fun _ _ _ _ => by omega) xa_sv0))) (xa_C_wk ?_)
  refine xa_meth (Q0 := (4, 2, false, 0, 0, 12)) (by decide +kernel) ⟨rfl, rfl⟩ (full := s_c_221) rfl rfl ?_
  intro hM hv Q hgo
  have b6 := xm_f6 hM
  have loop : ∀ (n : Nat) (m : Int), 0 ≤ m → m ≤ 16 → (∀ i, 0 ≤ i → i < m → ¬ (M 66 i = a ∧ M 67 i = b ∨ M 66 i = b ∧ M 67 i = a)) → 16 - m < (n : Int) → Q 2 [(3, (0, 0, 0, 16, m)), (0, (2, 60, 0, 0, 0)), (1, (0, 0, (-2147483648), 2147483647, a)), (2, (0, 0, (-2147483648), 2147483647, b))] [] M := by
    intro n
    induction n with
    | zero => intro m h1 h2 hno hms; omega
    | succ n ih =>
      intro m h1 h2 hno hms
      refine hgo.1 35 [2] 2 _ _ _ ?_
      refine And.intro ?_ ?_
      · intro (c1 : (M 60 6) ≤ m)
        show xa_wk post (some (0, 0, 0, 0, 0)) M
        exact xa_wkI 0 rfl (fun _ _ => by omega) (k 0 (Or.inl rfl) (iff_of_false (by decide) (fun ⟨i, i1, i2, i3⟩ => hno i i1 (by omega) i3)))
      · intro (c1 : m < (M 60 6))
        refine And.intro (show 0 ≤ m ∧ m < 16 by omega) ?_
        refine And.intro ?_ ?_
        · intro (c2 : ¬ (M 66 m) = a)
          refine And.intro (show 0 ≤ m ∧ m < 16 by omega) ?_
          refine And.intro ?_ ?_
          · intro (c3 : ¬ (M 66 m) = b)
            show Q 2 [(3, (0, 0, 1, 17, m + 1)), (0, (2, 60, 0, 0, 0)), (1, (0, 0, (-2147483648), 2147483647, a)), (2, (0, 0, (-2147483648), 2147483647, b))] [] M
            refine hgo.2.1 2 _ [(3, (0, 0, 0, 16, m + 1)), (0, (2, 60, 0, 0, 0)), (1, (0, 0, (-2147483648), 2147483647, a)), (2, (0, 0, (-2147483648), 2147483647, b))] _ _ (xa_subI rfl rfl (fun _ _ _ _ => by omega) (xa_subR rfl (xa_subI rfl rfl (fun _ _ _ _ => by omega) (xa_subI rfl rfl (fun _ _ _ _ => by omega) xa_sub0)))) ?_
            exact ih (m + 1) (by omega) (by omega) (fun i i1 i2 => by
              by_cases e : i = m
              · subst e
                omega
              · exact hno i i1 (by omega)) (by omega)
          · intro (c3 : (M 66 m) = b)
            refine And.intro (show 0 ≤ m ∧ m < 16 by omega) ?_
            refine And.intro ?_ ?_
            · intro (c4 : ¬ (M 67 m) = a)
              show Q 2 [(3, (0, 0, 1, 17, m + 1)), (0, (2, 60, 0, 0, 0)), (1, (0, 0, (-2147483648), 2147483647, a)), (2, (0, 0, (-2147483648), 2147483647, b))] [] M
              refine hgo.2.1 2 _ [(3, (0, 0, 0, 16, m + 1)), (0, (2, 60, 0, 0, 0)), (1, (0, 0, (-2147483648), 2147483647, a)), (2, (0, 0, (-2147483648), 2147483647, b))] _ _ (xa_subI rfl rfl (fun _ _ _ _ => by omega) (xa_subR rfl (xa_subI rfl rfl (fun _ _ _ _ => by omega) (xa_subI rfl rfl (fun _ _ _ _ => by omega) xa_sub0)))) ?_
              exact ih (m + 1) (by omega) (by omega) (fun i i1 i2 => by
                by_cases e : i = m
                · subst e
                  omega
                · exact hno i i1 (by omega)) (by omega)
            · intro (c4 : (M 67 m) = a)
              show xa_wk post (some (0, 0, 1, 1, 1)) M
              exact xa_wkI 1 rfl (fun _ _ => by omega) (k 1 (Or.inr rfl) (iff_of_true rfl ⟨m, by omega, by omega, by omega⟩))
        · intro (c2 : (M 66 m) = a)
          refine And.intro (show 0 ≤ m ∧ m < 16 by omega) ?_
          refine And.intro ?_ ?_
          · intro (c5 : (M 67 m) = b)
            show xa_wk post (some (0, 0, 1, 1, 1)) M
            exact xa_wkI 1 rfl (fun _ _ => by omega) (k 1 (Or.inr rfl) (iff_of_true rfl ⟨m, by omega, by omega, by omega⟩))
          · intro (c5 : ¬ (M 67 m) = b)
            refine And.intro (show 0 ≤ m ∧ m < 16 by omega) ?_
            refine And.intro ?_ ?_
            · intro (c6 : ¬ (M 66 m) = b)
              show Q 2 [(3, (0, 0, 1, 17, m + 1)), (0, (2, 60, 0, 0, 0)), (1, (0, 0, (-2147483648), 2147483647, a)), (2, (0, 0, (-2147483648), 2147483647, b))] [] M
              refine hgo.2.1 2 _ [(3, (0, 0, 0, 16, m + 1)), (0, (2, 60, 0, 0, 0)), (1, (0, 0, (-2147483648), 2147483647, a)), (2, (0, 0, (-2147483648), 2147483647, b))] _ _ (xa_subI rfl rfl (fun _ _ _ _ => by omega) (xa_subR rfl (xa_subI rfl rfl (fun _ _ _ _ => by omega) (xa_subI rfl rfl (fun _ _ _ _ => by omega) xa_sub0)))) ?_
              exact ih (m + 1) (by omega) (by omega) (fun i i1 i2 => by
                by_cases e : i = m
                · subst e
                  omega
                · exact hno i i1 (by omega)) (by omega)
            · intro (c6 : (M 66 m) = b)
              refine And.intro (show 0 ≤ m ∧ m < 16 by omega) ?_
              refine And.intro ?_ ?_
              · intro (c7 : ¬ (M 67 m) = a)
                show Q 2 [(3, (0, 0, 1, 17, m + 1)), (0, (2, 60, 0, 0, 0)), (1, (0, 0, (-2147483648), 2147483647, a)), (2, (0, 0, (-2147483648), 2147483647, b))] [] M
                refine hgo.2.1 2 _ [(3, (0, 0, 0, 16, m + 1)), (0, (2, 60, 0, 0, 0)), (1, (0, 0, (-2147483648), 2147483647, a)), (2, (0, 0, (-2147483648), 2147483647, b))] _ _ (xa_subI rfl rfl (fun _ _ _ _ => by omega) (xa_subR rfl (xa_subI rfl rfl (fun _ _ _ _ => by omega) (xa_subI rfl rfl (fun _ _ _ _ => by omega) xa_sub0)))) ?_
                exact ih (m + 1) (by omega) (by omega) (fun i i1 i2 => by
                  by_cases e : i = m
                  · subst e
                    omega
                  · exact hno i i1 (by omega)) (by omega)
              · intro (c7 : (M 67 m) = a)
                show xa_wk post (some (0, 0, 1, 1, 1)) M
                exact xa_wkI 1 rfl (fun _ _ => by omega) (k 1 (Or.inr rfl) (iff_of_true rfl ⟨m, by omega, by omega, by omega⟩))
  refine hgo.1 7 [2] 0 _ _ _ ?_
  show Q 2 [(3, (0, 0, 0, 0, 0)), (0, (2, 60, 0, 0, 0)), (1, (0, 0, (-2147483648), 2147483647, a)), (2, (0, 0, (-2147483648), 2147483647, b))] [] M
  refine hgo.2.1 2 _ [(3, (0, 0, 0, 16, 0)), (0, (2, 60, 0, 0, 0)), (1, (0, 0, (-2147483648), 2147483647, a)), (2, (0, 0, (-2147483648), 2147483647, b))] _ _ (xa_subI rfl rfl (fun _ _ _ _ => by omega) (xa_subR rfl (xa_subI rfl rfl (fun _ _ _ _ => by omega) (xa_subI rfl rfl (fun _ _ _ _ => by omega) xa_sub0)))) ?_
  exact loop 17 0 (by omega) (by omega) (fun i i1 i2 => by omega) (by omega)
theorem ct_tellPart {A : Nat → Nat} {h0 : g_H} {d : Nat} {M : xa_M} {post : Option xa_V → xa_M → Prop} {l1 u1 l2 u2 a b n : Int} (hn : M 60 20 = n) (h1 : 0 ≤ n) (h2 : n < 31) (hl1 : -9223372036854775808 < l1) (hb : 1 ≤ b) (k : ∀ g : Int, g = (Int.gcd a b : Int) → 1 ≤ g → g ≤ b → post none (xa_up (xa_up (xa_up (xa_up M 74 n (a.tdiv g)) 60 20 (n + 1)) 74 (n + 1) (b.tdiv g)) 60 20 (n + 1 + 1))) : xa_C xm_I A h0 (d + 3) 230 [(2, 60, 0, 0, 0), (1, 0, l1, u1, a), (1, 0, l2, u2, b)] M post := by
  subst hn
  refine xa_C_arg [(2, 60, 0, 0, 0), (1, 0, (-9223372036854775807), 9223372036854775807, a), (1, 0, (-9223372036854775807), 9223372036854775807, b)] (xa_svR (xa_svL (fun _ _ _ _ => by omega) (xa_svL (fun _ _ _ _ => by omega) xa_sv0))) ?_
  refine xa_meth (Q0 := (7, 0, false, 0, 0, 12)) (by decide +kernel) ⟨rfl, rfl⟩ (full := s_c_230) rfl rfl ?_
  intro hM hv Q hgo
  refine hgo.1 19 [] 0 _ _ _ ?_
  show xa_C xm_I A h0 _ 229 [(1, 0, (-9223372036854775807), 9223372036854775807, a), (1, 0, (-9223372036854775807), 9223372036854775807, b)] M _
  refine ct_gcd1 (by decide) (by decide) (by omega) (fun g1 eg1 pg1 qg1 => ?_)
  show xa_C xm_I A h0 _ 231 [(2, 60, 0, 0, 0), (1, 0, (-9223372036854775808), 9223372036854775807, a.tdiv g1)] M _
  refine ct_tell (n := M 60 20) (by first | rfl | (simp [xa_up]; done) | omega) (by omega) (by omega) ?_
  show xa_C xm_I A h0 _ 231 [(2, 60, 0, 0, 0), (1, 0, (-9223372036854775808), 9223372036854775807, b.tdiv g1)] (xa_up (xa_up M 74 (M 60 20) (a.tdiv g1)) 60 20 ((M 60 20) + 1)) _
  refine ct_tell (n := (M 60 20) + 1) (by first | rfl | (simp [xa_up]; done) | omega) (by omega) (by omega) ?_
  show post none (xa_up (xa_up (xa_up (xa_up M 74 (M 60 20) (a.tdiv g1)) 60 20 ((M 60 20) + 1)) 74 ((M 60 20) + 1) (b.tdiv g1)) 60 20 (((M 60 20) + 1) + 1))
  exact k _ eg1 pg1 qg1
theorem ct_lead {A : Nat → Nat} {h0 : g_H} {d : Nat} {M : xa_M} {post : Option xa_V → xa_M → Prop} {l1 u1 l2 u2 l3 u3 a b c : Int} (hl1 : 0 ≤ l1) (hu1 : u1 ≤ 9) (hl2 : 0 ≤ l2) (hu2 : u2 ≤ 13) (hl3 : 0 ≤ l3) (hu3 : u3 ≤ 13) (h1 : 1 ≤ M 76 a) (h2 : 1 ≤ M 63 c) (k : ∀ u l : Int, (-400000000000000000 ≤ u ∧ u ≤ 400000000000000000) → (1 ≤ l ∧ l ≤ 400000000000000000) → xm_led M a b c u l → post none (xa_up (xa_up M 60 25 u) 60 26 l)) : xa_C xm_I A h0 (d + 3) 228 [(2, 60, 0, 0, 0), (0, 0, l1, u1, a), (0, 0, l2, u2, b), (0, 0, l3, u3, c)] M post := by
  refine xa_C_asm (fun hM hv => ?_)
  have va : l1 ≤ a ∧ a ≤ u1 := xa_v2 hv (show (0 : Nat) < 2 by decide)
  have vb : l2 ≤ b ∧ b ≤ u2 := hv _ (List.mem_cons_of_mem _ (List.mem_cons_of_mem _ List.mem_cons_self)) (show (0 : Nat) < 2 by decide)
  have vc : l3 ≤ c ∧ c ≤ u3 := hv _ (List.mem_cons_of_mem _ (List.mem_cons_of_mem _ (List.mem_cons_of_mem _ List.mem_cons_self))) (show (0 : Nat) < 2 by decide)
  refine xa_C_arg [(2, 60, 0, 0, 0), (0, 0, 0, 9, a), (0, 0, 0, 13, b), (0, 0, 0, 13, c)] (xa_svR (xa_svI (fun _ _ _ _ => by omega) (xa_svI (fun _ _ _ _ => by omega) (xa_svI (fun _ _ _ _ => by omega) xa_sv0)))) ?_
  have t75 := xm_t75 hM a (by omega) (by omega)
  have t76 := xm_t76 hM a (by omega) (by omega)
  have t63b := xm_t63 hM b (by omega) (by omega)
  have t63c := xm_t63 hM c (by omega) (by omega)
  have hx := xm_mulb (p := -(M 75 a)) (q := M 63 b) (by omega) (by omega) (by omega) (by omega)
  have hy2 := xm_mulb (p := M 76 a) (q := M 63 c) (by omega) (by omega) (by omega) (by omega)
  have hy : 1 ≤ M 76 a * M 63 c := by
    have := Int.mul_pos (show 0 < M 76 a by omega) (show 0 < M 63 c by omega)
    omega
  refine xa_meth (Q0 := (10, 0, false, 0, 0, 12)) (by decide +kernel) ⟨rfl, rfl⟩ (full := s_c_228) rfl rfl ?_
  intro hM hv Q hgo
  refine hgo.1 42 [] 0 _ _ _ ?_
  show xa_C xm_I A h0 _ 229 [(1, 0, (-400000000000000000), 400000000000000000, (-(M 75 a)) * (M 63 b)), (1, 0, 0, 400000000000000000, (M 76 a) * (M 63 c))] M _
  refine ct_gcd1 (by decide) (by decide) (by omega) (fun g1 eg1 pg1 qg1 => ?_)
  refine And.intro (show (-400000000000000000) ≤ (((-(M 75 a)) * (M 63 b)).tdiv g1) ∧ (((-(M 75 a)) * (M 63 b)).tdiv g1) ≤ 400000000000000000 by (exact xm_tdb (by omega) hx.1 hx.2)) ?_
  show post none (xa_up (xa_up M 60 25 (((-(M 75 a)) * (M 63 b)).tdiv g1)) 60 26 (((M 76 a) * (M 63 c)) / g1))
  have dl := xm_edb (g := g1) (y := M 76 a * M 63 c) (by omega) (by omega) hy2.2
  exact k _ _ (xm_tdb (by omega) hx.1 hx.2) dl ⟨_, eg1, rfl, rfl⟩
