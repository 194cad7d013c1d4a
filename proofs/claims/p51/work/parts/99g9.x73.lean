set_option maxRecDepth 20000
/-- what is told of an axle that turns -/
def rw_t (N0 : xa_M) (a : Int) (P : xa_M → Prop) (f : xa_M → Int → Int) (V : Int → Int) : Prop := (0 ≤ a ∧ a ≤ 9) ∧ ∃ N : xa_M, tw_F N0 (-1) 0 N ∧ N 77 a = 1 ∧ P N ∧ V = f N
theorem rw_t1 {N0 : xa_M} {a : Int} {P P' : xa_M → Prop} {f f' : xa_M → Int → Int} {V V' : Int → Int} (hr : xm_rng N0) (h : rw_t N0 a P f V) (h' : rw_t N0 a P' f' V') (hf : ∀ N N' : xa_M, (∀ c, 0 ≤ c → c < 10 → N' 77 c = N 77 c ∧ (N 77 c = 1 → N' 75 c = N 75 c ∧ N' 76 c = N 76 c)) → N' 75 a = N 75 a → N' 76 a = N 76 a → P N → P' N' → ∀ i, f N i = f' N' i) : ∀ i, V i = V' i := by
  obtain ⟨ha, N, hF, h7, hP, rfl⟩ := h
  obtain ⟨-, N', hF', h7', hP', rfl⟩ := h'
  obtain ⟨-, hag⟩ := tw_F_det hr hF hF'
  obtain ⟨-, ha7⟩ := hag (by decide)
  obtain ⟨-, -, k3⟩ := ha7 a ha.1 (by omega)
  exact hf N N' (fun c c0 c1 => ⟨(ha7 c c0 c1).2.1, (ha7 c c0 c1).2.2⟩) (k3 h7).1 (k3 h7).2 hP hP'
def rw_k (p : Prop) (s : Int) (R : Int → Int) (s' : Int) (R' : Int → Int) (e : Int) (S : (Int → Int) → Prop) : Prop := ∃ V : Int → Int, rw_c p s R s' R' e V ∧ (p → S V)
theorem rw_no {p : Prop} {s s' e : Int} {R R' : Int → Int} {S : (Int → Int) → Prop} (hp : ¬ p) (hs : s' = s) (h : ∀ i : Int, 0 ≤ i → i < s → R' i = R i) : rw_k p s R s' R' e S := ⟨fun _ => 0, Or.inr ⟨hp, hs, h⟩, fun h => absurd h hp⟩
theorem rw_yes {p : Prop} {s s' e : Int} {R R' V : Int → Int} {S : (Int → Int) → Prop} (hp : p) (hs : s' = e) (h : ∀ i : Int, 0 ≤ i → i < e → R' i = V i) (hS : S V) : rw_k p s R s' R' e S := ⟨V, Or.inl ⟨hp, hs, h⟩, fun _ => hS⟩
theorem rw_k1 {p p' : Prop} {M N M1 N1 : xa_M} {e : Int} {S S' : (Int → Int) → Prop} (h : rw_k p (M 48 1) (M 49) (M1 48 1) (M1 49) e S) (h' : rw_k p' (N 60 20) (N 74) (N1 60 20) (N1 74) e S') (hp : p ↔ p') (he : p → e ≤ 16) (hV : ∀ V V', p → S V → S' V' → ∀ i : Int, 0 ≤ i → i < e → V i = V' i) (hI : rw_I M N) : rw_I M1 N1 := by
  obtain ⟨V, h, q⟩ := h
  obtain ⟨V', h', q'⟩ := h'
  exact rw_c1 h h' hp he (fun hp1 => hV V V' hp1 (q hp1) (q' (hp.mp hp1))) hI
theorem rw_60 {b : Bool} {A : Nat → Nat} {h0 : g_H} {d : Nat} {M : xa_M} {post : Option xa_V → xa_M → Prop} {l1 u1 x1 : Int} {l : List Int} (h1 : (0 : Int) ≤ M 48 1 ∧ M 48 1 < 16) (hl : M 48 1 = (l.length : Int)) (hT : rw_T (M 49) l) (k : ∀ M1 : xa_M, (∀ (q : Nat) (j : Int), ¬ (q = 48 ∨ q = 49) → M1 q j = M q j) → (0 : Int) ≤ M1 48 1 → M1 48 1 = M 48 1 + 1 → rw_T (M1 49) (l ++ [x1]) → post none M1) : xa_C (xl_I b) A h0 (d + 2) 60 [(2, 48, 0, 0, 0), (1, 0, l1, u1, x1)] M post :=
  cx_60_48 h1.1 (fun h => absurd h1.2 (by omega)) (fun h => k _ (fun q j hq => (xa_up_ne (by omega)).trans (xa_up_ne (by omega))) (by
    rw [xa_up_eq, xa_w32_id (by omega) (by omega)]
    omega) (by
    rw [xa_up_eq, xa_w32_id (by omega) (by omega)]) (rw_T1 hT (fun i hi => (xa_up_ne (by omega)).trans (xa_up_ne (by omega))) ((xa_up_ne (by omega)).trans (by rw [← hl]; exact xa_up_eq))))
theorem rw_70 {b : Bool} {A : Nat → Nat} {h0 : g_H} {d : Nat} {M : xa_M} {post : Option xa_V → xa_M → Prop} {l1 u1 l2 u2 x y : Int} (h1 : 1 ≤ y) (k : ∀ r : Int, r = x.tmod y → -y < r ∧ r < y → post (some (1, 0, -9223372036854775808, 9223372036854775807, r)) M) : xa_C (xl_I b) A h0 (d + 1) 70 [(1, 0, l1, u1, x), (1, 0, l2, u2, y)] M post := by
  refine xa_C_wk ?_
  refine xa_C_arg [(1, 0, (-9223372036854775808), 9223372036854775807, x), (1, 0, 1, 9223372036854775807, y)] (xa_svL (fun _ _ _ _ => by omega) (xa_svL (fun _ _ _ _ => by omega) xa_sv0)) ?_
  refine xa_meth (Q0 := (4, 3, false, 0, 0, 11)) (by decide +kernel) ⟨rfl, rfl⟩ (full := s_c_70) rfl rfl ?_
  intro hM hv Q hgo
  refine hgo.1 11 [] 0 _ _ _ ?_
  show xa_wk post (some (1, 0, (-9223372036854775808), 9223372036854775807, x.tmod y)) M
  exact xa_wkL _ rfl (fun _ _ => by omega) (k _ rfl (tw_tm h1))
theorem rw_71 {b : Bool} {A : Nat → Nat} {h0 : g_H} {d : Nat} {M : xa_M} {post : Option xa_V → xa_M → Prop} {l1 u1 l2 u2 x y : Int} (h0' : (0 : Int) ≤ M 48 1 ∧ M 48 1 < 15) {l : List Int} (hl : M 48 1 = (l.length : Int)) (hT : rw_T (M 49) l) (hx : -9223372036854775807 ≤ x ∧ x ≤ 9223372036854775807) (hy : 1 ≤ y ∧ y ≤ 9223372036854775807) (k : ∀ M1 : xa_M, (∀ (q : Nat) (j : Int), ¬ (q = 48 ∨ q = 49) → M1 q j = M q j) → (0 : Int) ≤ M1 48 1 → M1 48 1 = M 48 1 + 2 → rw_T (M1 49) (l ++ [x.tdiv (Int.gcd x y : Int)] ++ [y.tdiv (Int.gcd x y : Int)]) → post none M1) : xa_C (xl_I b) A h0 (d + 3) 71 [(2, 48, 0, 0, 0), (1, 0, l1, u1, x), (1, 0, l2, u2, y)] M post := by
  refine xa_C_arg [(2, 48, 0, 0, 0), (1, 0, (-9223372036854775808), 9223372036854775807, x), (1, 0, (-9223372036854775808), 9223372036854775807, y)] (xa_svR (xa_svL (fun _ _ _ _ => by omega) (xa_svL (fun _ _ _ _ => by omega) xa_sv0))) ?_
  refine xa_meth (Q0 := (7, 0, false, 0, 0, 6)) (by decide +kernel) ⟨rfl, rfl⟩ (full := s_c_71) rfl rfl ?_
  intro hM hv Q hgo
  refine hgo.1 19 [] 0 _ _ _ ?_
  show xa_C (xl_I b) A h0 _ 55 [(1, 0, (-9223372036854775808), 9223372036854775807, x), (1, 0, (-9223372036854775808), 9223372036854775807, y)] M _
  refine cx_55y (by omega) (by omega) ?_
  intro g101 (i1 : g101 = (Int.gcd (x) (y) : Int)) (i2 : 1 ≤ g101) (i3 : g101 ≤ 9223372036854775807)
  subst i1
  show xa_C (xl_I b) A h0 _ 21 [(1, 0, (-9223372036854775808), 9223372036854775807, x), (1, 0, 0, 9223372036854775807, (Int.gcd x y : Int))] M _
  refine cx_21t rfl (show 1 ≤ (Int.gcd x y : Int) ∧ (Int.gcd x y : Int) ≤ 9223372036854775807 by omega) ?_
  show xa_C (xl_I b) A h0 _ 60 [(2, 48, 0, 0, 0), (1, 0, (-9223372036854775808), 9223372036854775807, (x).tdiv (Int.gcd x y : Int))] M _
  refine rw_60 (l := l) (by show (0 : Int) ≤ M 48 1 ∧ M 48 1 < 16; omega) hl hT ?_
  intro M102 (i4 : ∀ (q : Nat) (j : Int), ¬ (q = 48 ∨ q = 49) → M102 q j = M q j) (i5 : (0 : Int) ≤ M102 48 1) (zM102 : M102 48 1 = M 48 1 + 1) (tM102 : rw_T (M102 49) (l ++ [x.tdiv (Int.gcd x y : Int)]))
  show xa_C (xl_I b) A h0 _ 21 [(1, 0, (-9223372036854775808), 9223372036854775807, y), (1, 0, 0, 9223372036854775807, (Int.gcd x y : Int))] M102 _
  refine cx_21t rfl (show 1 ≤ (Int.gcd x y : Int) ∧ (Int.gcd x y : Int) ≤ 9223372036854775807 by omega) ?_
  show xa_C (xl_I b) A h0 _ 60 [(2, 48, 0, 0, 0), (1, 0, (-9223372036854775808), 9223372036854775807, (y).tdiv (Int.gcd x y : Int))] M102 _
  refine rw_60 (l := l ++ [x.tdiv (Int.gcd x y : Int)]) (by show (0 : Int) ≤ M102 48 1 ∧ M102 48 1 < 16; omega) (by rw [List.length_append]; show M102 48 1 = ((l.length + 1 : Nat) : Int); omega) tM102 ?_
  intro M103 (i6 : ∀ (q : Nat) (j : Int), ¬ (q = 48 ∨ q = 49) → M103 q j = M102 q j) (i7 : (0 : Int) ≤ M103 48 1) (zM103 : M103 48 1 = M102 48 1 + 1) (tM103 : rw_T (M103 49) (l ++ [x.tdiv (Int.gcd x y : Int)] ++ [y.tdiv (Int.gcd x y : Int)]))
  show post none M103
  exact k _ (fun q j h2 => (i6 q j h2).trans (i4 q j h2)) i7 (by omega) tM103
theorem rw_45 {b : Bool} {A : Nat → Nat} {h0 : g_H} {d : Nat} {M : xa_M} {post : Option xa_V → xa_M → Prop} {l1 u1 x1 : Int} {N0 : xa_M} (hM0 : tu_M N0) (hC0 : tu_C M N0) (k : ∀ (lo hi v : Int) (M1 : xa_M), tw_A N0 x1 v (fun _ v => v = 0) → (∀ (q : Nat) (j : Int), ¬ (12 ≤ q ∧ q ≤ 14) → ¬ (q = 48 ∨ q = 49) → M1 q j = M q j) → rz_c ((v : Int) = 0) (M 48 1) (M1 48 1) (2) → rw_k (v = 0) (M 48 1) (M 49) (M1 48 1) (M1 49) 2 (fun V => rw_t N0 x1 (fun N => Int.gcd (N 75 x1) (N 76 x1) = 1) (fun N => rw_v [N 75 x1, N 76 x1]) V) → post (some (0, 0, lo, hi, v)) M1) : xa_C (xl_I b) A h0 (d + 8) 45 [(2, 0, 0, 0, 0), (0, 0, l1, u1, x1)] M post := by
  refine xa_C_arg [(2, 0, 0, 0, 0), (0, 0, (-2147483648), 2147483647, x1)] (xa_svR (xa_svI (fun _ _ _ _ => by omega) (xa_sv0))) ?_
  refine xa_meth (Q0 := (3, 1, false, 0, 0, 11)) (by decide +kernel) ⟨rfl, rfl⟩ (full := s_c_45) rfl rfl ?_
  intro hM hv Q hgo
  refine hgo.1 29 [] 0 _ _ _ ?_
  show xa_C (xl_I b) A h0 _ 46 [(2, 0, 0, 0, 0), (0, 0, (-2147483648), 2147483647, x1)] M _
  refine cx_46t hM0 hC0 ?_
  intro v101 M102 (i1 : tu_S N0 x1 v101 M102) (i2 : tu_G M M102)
  refine And.intro ?_ ?_
  · intro (c3 : v101 = 0)
    rw [c3] at i1
    obtain ⟨ax, N9, t1, t2, t3, t4, t5, t6, t7⟩ := tu_S0 i1
    show xa_C (xl_I b) A h0 _ 59 [(2, 48, 0, 0, 0)] M102 _
    refine cx_59_48 ?_
    show xa_C (xl_I b) A h0 _ 54 [(2, 12, 0, 0, 0), (0, 0, (-2147483648), 2147483647, x1)] (xa_up M102 48 1 0) _
    refine cx_54_12 (show 0 ≤ x1 ∧ x1 < 10 by omega) ?_
    show xa_C (xl_I b) A h0 _ 60 [(2, 48, 0, 0, 0), (1, 0, (-9223372036854775808), 9223372036854775807, M102 13 x1)] (xa_up M102 48 1 0) _
    refine rw_60 (l := []) (by show (0 : Int) ≤ 0 ∧ 0 < 16; omega) xa_up_eq rw_T0 ?_
    intro M103 (i4 : ∀ (q : Nat) (j : Int), ¬ (q = 48 ∨ q = 49) → M103 q j = (xa_up M102 48 1 0) q j) (i5 : (0 : Int) ≤ M103 48 1) (zM103 : M103 48 1 = 0 + 1) (tM103 : rw_T (M103 49) [M102 13 x1])
    show xa_C (xl_I b) A h0 _ 51 [(2, 12, 0, 0, 0), (0, 0, (-2147483648), 2147483647, x1)] M103 _
    refine cx_51_12 (show 0 ≤ x1 ∧ x1 < 10 by omega) ?_
    show xa_C (xl_I b) A h0 _ 60 [(2, 48, 0, 0, 0), (1, 0, (-9223372036854775808), 9223372036854775807, M103 14 x1)] M103 _
    refine rw_60 (l := [M102 13 x1]) (by show (0 : Int) ≤ M103 48 1 ∧ M103 48 1 < 16; omega) (show M103 48 1 = (1 : Int) by omega) tM103 ?_
    intro M104 (i6 : ∀ (q : Nat) (j : Int), ¬ (q = 48 ∨ q = 49) → M104 q j = M103 q j) (i7 : (0 : Int) ≤ M104 48 1) (zM104 : M104 48 1 = M103 48 1 + 1) (tM104 : rw_T (M104 49) [M102 13 x1, M103 14 x1])
    show post (some (0, 0, 0, 0, 0)) M104
    exact k _ _ _ _ (tw_A_of i1 (fun e _ _ _ => e)) (fun q j h1 h2 => (i6 q j h2).trans ((i4 q j h2).trans ((xa_up_ne (by omega)).trans (i2 q j h1)))) (by have zi2 := i2 48 1 (by omega); unfold rz_c; omega) (rw_yes (by have zi2 := i2 48 1 (by omega); show (0 : Int) = 0; omega) (by have zi2 := i2 48 1 (by omega); omega) (V := rw_v [N9 75 x1, N9 76 x1]) (fun i i0 i1 => by have q := tM104 i i0 i1; rw [t4.1, (i4 14 x1 (by omega)).trans ((xa_up_ne (by omega)).trans t4.2)] at q; exact q) ⟨ax, N9, ⟨N0, xm_cor_r, t1⟩, t3, t7, rfl⟩)
  · intro (c3 : ¬ v101 = 0)
    show post (some (0, 0, (-5), 0, v101)) M102
    exact k _ _ _ _ (tw_A_of i1 (fun e _ _ _ => e)) (fun q j h1 h2 => i2 q j h1) (by have zi2 := i2 48 1 (by omega); have rr := rz_Sle i1; unfold rz_c; omega) (rw_no (by have zi2 := i2 48 1 (by omega); have rr := rz_Sle i1; show ¬ (v101 : Int) = 0; omega) (by have zi2 := i2 48 1 (by omega); have rr := rz_Sle i1; omega) (fun i _ _ => i2 49 i (by omega)))
theorem rw_m45 {A : Nat → Nat} {h0 : g_H} {d : Nat} {M : xa_M} {post : Option xa_V → xa_M → Prop} {l1 u1 : Int} {a : Int} (hI : xm_Inv M) (k : ∀ (o : Option xa_V) (M1 : xa_M), (∃ lo hi n, o = some (0, 0, lo, hi, n) ∧ tw_A M a n (fun _ v => v = 0) ∧ rz_c ((n : Int) = 0) (M 60 20) (M1 60 20) (2) ∧ rw_k (n = 0) (M 60 20) (M 74) (M1 60 20) (M1 74) 2 (fun V => rw_t M a (fun _ => True) (fun N => rw_v [(N 75 a).tdiv (Int.gcd (N 75 a) (N 76 a) : Int), (N 76 a).tdiv (Int.gcd (N 75 a) (N 76 a) : Int)]) V)) → xm_cor M M1 → post o M1) : xa_C xm_I A h0 (d + 6) 225 [(2, 60, 0, 0, 0), (0, 0, l1, u1, a)] M post := by
  refine xa_C_arg [(2, 60, 0, 0, 0), (0, 0, (-2147483648), 2147483647, a)] (xa_svR (xa_svI (fun _ _ _ _ => by omega) xa_sv0)) ?_
  refine xa_meth (Q0 := (3, 1, false, 0, 0, 12)) (by decide +kernel) ⟨rfl, rfl⟩ (full := s_c_225) rfl rfl ?_
  intro hM hv Q hgo
  refine hgo.1 31 [] 0 _ _ _ ?_
  show xa_C xm_I A h0 _ 215 [(0, 0, (-2147483648), 2147483647, a)] (xa_up M 60 21 0) _
  refine ct_isAxle ?_ ?_
  · intro (i1 : 0 ≤ a ∧ a ≤ 9)
    show xa_C xm_I A h0 _ 226 [(2, 60, 0, 0, 0), (0, 0, (-2147483648), 2147483647, a)] (xa_up M 60 21 0) _
    refine rz_fx (j := 226) (by decide) (xa_C_mok (xw_ct_stateOfF (xm_Inv_cor (xm_cor_f (by omega) xm_cor_r) hI) (by omega) (by omega) (fun v2 w2 M2 hc2 hT2 hF2 hw2 hv2 hs2 hM2 => ?_)))
    intro (zM2 : M2 60 20 = M 60 20)
    refine And.intro ?_ ?_
    · intro (c3 : 0 ≤ v2)
      refine And.intro (show 0 ≤ a ∧ a < 10 by omega) ?_
      refine And.intro (show 0 ≤ a ∧ a < 10 by omega) ?_
      show xa_C xm_I A h0 _ 230 [(2, 60, 0, 0, 0), (1, 0, (-1000000000000000), 1000000000000000, M2 75 a), (1, 0, 0, 1000000000000000, M2 76 a)] (xa_up M2 60 20 0) _
      refine ct_tellPart (n := 0) (by first | rfl | (simp [xa_up]; done)) (by decide) (by decide) (by decide) (by omega) (fun g4 eg4 pg4 qg4 => ?_)
      show post (some (0, 0, 0, 0, 0)) (xa_up (xa_up (xa_up (xa_up (xa_up M2 60 20 0) 74 0 ((M2 75 a).tdiv g4)) 60 20 1) 74 1 ((M2 76 a).tdiv g4)) 60 20 2)
      exact k _ _ ⟨_, _, _, rfl, Or.inr ⟨i1, w2, M2, ⟨_, xm_cor_f (by omega) xm_cor_r, hF2⟩, Or.inr (Or.inr ⟨by omega, by omega, rfl⟩)⟩, by show rz_c ((0 : Int) = 0) (M 60 20) (2) (2); unfold rz_c; omega, by exact rw_yes (by show (0 : Int) = 0; omega) xa_up_eq (V := rw_v [(M2 75 a).tdiv (Int.gcd (M2 75 a) (M2 76 a) : Int), (M2 76 a).tdiv (Int.gcd (M2 75 a) (M2 76 a) : Int)]) (fun i i0 i1 => by rw [← eg4]; rcases (show i = 0 ∨ i = 1 by omega) with rfl | rfl <;> first | rfl | (simp [xa_up, rw_v]; done)) (by have e9 : w2 = 0 := (by omega); subst e9; exact ⟨i1, M2, ⟨_, xm_cor_f (by omega) xm_cor_r, hF2⟩, by omega, trivial, rfl⟩)⟩ (xm_cor_f (by omega) (xm_cor_a rfl (xm_cor_f (by omega) (xm_cor_a rfl (xm_cor_f (by omega) (xm_cor_t (xm_cor_f (by omega) xm_cor_r) (xw_to hc2)))))))
    · intro (c3 : v2 < 0)
      show post (some (0, 0, (-5), 0, v2)) M2
      exact k _ _ ⟨_, _, _, rfl, Or.inr ⟨i1, w2, M2, ⟨_, xm_cor_f (by omega) xm_cor_r, hF2⟩, tw_s3 (T := fun _ v => v = 0) hs2 (by omega)⟩, by show rz_c ((v2 : Int) = 0) (M 60 20) (M2 60 20) (2); unfold rz_c; omega, by exact rw_no (by show ¬ (v2 : Int) = 0; omega) (by show M2 60 20 = M 60 20; omega) (fun i i0 i1 => ((xw_74 hc2 i0 (by have b20 := xm_f20 hM; omega)).trans (xa_up_ne (by omega))))⟩ (xm_cor_t (xm_cor_f (by omega) xm_cor_r) (xw_to hc2))
  · intro (i1 : ¬ (0 ≤ a ∧ a ≤ 9))
    show post (some (0, 0, (-1), (-1), (-1))) (xa_up M 60 21 0)
    exact k _ _ ⟨_, _, _, rfl, Or.inl ⟨i1, rfl⟩, by show rz_c (((-1) : Int) = 0) (M 60 20) (M 60 20) (2); unfold rz_c; omega, by exact rw_no (by show ¬ ((-1) : Int) = 0; omega) (by show M 60 20 = M 60 20; omega) (fun i _ _ => xa_up_ne (by omega))⟩ (xm_cor_f (by omega) xm_cor_r)
theorem rw_p45 (A : Nat → Nat) (cmp : Bool) : iv_pair (rw_J A) A 45 225 [0] cmp false := rw_armV (fun W b h as M hJ hM hInv hs hR hz => by
  obtain ⟨m1, ys, rfl, -, hs⟩ := iv_spc hs
  obtain rfl := iv_sp0 hs
  have b0 := xm_f0 (xa_H_Mok hM)
  have b6 := xm_f6 (xa_H_Mok hM)
  have r1 : iv_num h 1 9 = M 60 0 := hR.1.1
  have r2 : iv_num h 1 10 = M 60 6 := hR.1.2.1
  have r3 : ∀ i, 0 ≤ i → i < 14 → iv_num h 2 i = M 61 i ∧ iv_num h 3 i = M 62 i ∧ iv_num h 5 i = M 64 i ∧ iv_num h 6 i = M 65 i ∧ iv_num h 4 i = M 63 i := hR.1.2.2.1
  have r4 : ∀ i, 0 ≤ i → i < 16 → iv_num h 7 i = M 66 i ∧ iv_num h 8 i = M 67 i := hR.1.2.2.2
  have hS := hR.2
  have hMk := xa_H_Mok hM
  have hT := tu_M_of hMk hInv
  have hr := xm_rng_I hMk hInv
  have hC0 : tu_C (iv_num h) M := ⟨r2, r4, fun w w0 w1 => ⟨(r3 w w0 w1).2.2.1, (r3 w w0 w1).2.2.2.2⟩⟩
  have hc := rw_45 (b := b) (A := A) (h0 := h) (d := 52) (M := iv_num h) (N0 := M) (l1 := -2147483648) (u1 := 2147483647) (x1 := m1.toInt) (post := fun o M1 => ∃ lo hi n, o = some (0, 0, lo, hi, n) ∧ ((tw_A M m1.toInt n (fun _ v => v = 0) ∧ ∀ (q : Nat) (j : Int), ¬ (12 ≤ q ∧ q ≤ 14) → ¬ (q = 48 ∨ q = 49) → M1 q j = iv_num h q j) ∧ rw_k (n = 0) (iv_num h 48 1) (iv_num h 49) (M1 48 1) (M1 49) 2 (fun V => rw_t M m1.toInt (fun N => Int.gcd (N 75 m1.toInt) (N 76 m1.toInt) = 1) (fun N => rw_v [N 75 m1.toInt, N 76 m1.toInt]) V))) hT hC0 (fun lo hi n M1 x1 x2 _ x3 => ⟨lo, hi, n, rfl, ⟨x1, x2⟩, x3⟩)
  have hm := fun (h1 : g_H) => rw_m45 (A := A) (h0 := h1) (d := 54) (M := M) (l1 := -2147483648) (u1 := 2147483647) (a := m1.toInt) (post := fun o M2 => (∃ lo hi n, o = some (0, 0, lo, hi, n) ∧ ((tw_A M m1.toInt n (fun _ v => v = 0) ∧ xm_cor M M2) ∧ rw_k (n = 0) (M 60 20) (M 74) (M2 60 20) (M2 74) 2 (fun V => rw_t M m1.toInt (fun _ => True) (fun N => rw_v [(N 75 m1.toInt).tdiv (Int.gcd (N 75 m1.toInt) (N 76 m1.toInt) : Int), (N 76 m1.toInt).tdiv (Int.gcd (N 75 m1.toInt) (N 76 m1.toInt) : Int)]) V))) ∧ xm_Inv M2) hInv (fun o M2 x1 x2 => by
    obtain ⟨lo, hi, n, rfl, x1, -, x3⟩ := x1
    exact ⟨⟨lo, hi, n, rfl, ⟨x1, x2⟩, x3⟩, xm_Inv_cor x2 hInv⟩)
  refine ⟨[(2, 0, 0, 0, 0), (0, 0, -2147483648, 2147483647, m1.toInt)], [(2, 60, 0, 0, 0), (0, 0, -2147483648, 2147483647, m1.toInt)], _, _, ⟨rfl, iv_i m1, trivial⟩, ⟨rfl, iv_i m1, trivial⟩, fun n n' M1 M2 g1 g2 => by
    obtain ⟨h1, z1⟩ := g1
    obtain ⟨h2, z2⟩ := g2
    have en : n = n' := tw_A_one hr h1.1 h2.1 (fun _ _ _ _ _ _ _ e e' => e.trans e'.symm)
    exact ⟨fun _ => en, fun x => h2.2 104 x (by unfold xm_scr; omega), fun x => h2.2 105 x (by unfold xm_scr; omega), tw_lmR hR h1.2 h2.2, rw_k1 z1 z2 (by rw [en]) (fun _ => by decide) (fun V V' hp s1 s2 i _ _ => rw_t1 hr s1 s2 (fun N N' _ e1 e2 g _ i => by rw [e1, e2, g]; show _ = rw_v [(N 75 m1.toInt).tdiv 1, (N 76 m1.toInt).tdiv 1] i; rw [Int.tdiv_one, Int.tdiv_one]) i) hz⟩, hc, hm⟩)
