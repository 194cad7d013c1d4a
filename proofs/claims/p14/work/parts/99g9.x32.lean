-- turns: what both sides answer
set_option maxRecDepth 20000
theorem cx_60a {b : Bool} {A : Nat → Nat} {h0 : g_H} {d : Nat} {M : xa_M} {post : Option xa_V → xa_M → Prop} {l1 u1 x1 : Int} (h1 : (0 : Int) ≤ M 48 1) (k : ∀ M1 : xa_M, (∀ (q : Nat) (j : Int), ¬ (q = 48 ∨ q = 49) → M1 q j = M q j) → (0 : Int) ≤ M1 48 1 → post none M1) : xa_C (xl_I b) A h0 (d + 2) 60 [(2, 48, 0, 0, 0), (1, 0, l1, u1, x1)] M post :=
  cx_60_48 h1 (fun _ => k M (fun _ _ _ => rfl) h1) (fun h => k _ (fun q j hq => (xa_up_ne (by omega)).trans (xa_up_ne (by omega))) (by
    rw [xa_up_eq, xa_w32_id (by omega) (by omega)]
    omega))
/-- its numbers are too long to show, on the other side -/
def tw_L (N : xa_M) (a : Int) : Prop := 1000000000 < ((N 75 a).natAbs : Int) ∨ 1000000000 < N 76 a
/-- the answer that fairState gives -/
def tw_fT (a : Int) (N : xa_M) (v : Int) : Prop := (tw_L N a ∧ v = -5) ∨ (¬ tw_L N a ∧ v = 0)
theorem tw_f5 {a v : Int} {N : xa_M} (h : tw_fT a N v) (hv : v < 0) : tw_L N a := by
  rcases h with ⟨h, -⟩ | ⟨-, e⟩
  · exact h
  · omega
theorem tw_f0 {a v : Int} {N : xa_M} (h : tw_fT a N v) (hv : 0 ≤ v) : ¬ tw_L N a := by
  rcases h with ⟨-, e⟩ | ⟨h, -⟩
  · omega
  · exact h
theorem tw_s5 {N : xa_M} {v w a : Int} {T : xa_M → Int → Prop} (hs : (v = w ∧ ¬ w = 0) ∨ (w = 0 ∧ N 77 a = 0 ∧ v = -2) ∨ (w = 0 ∧ N 77 a = 1 ∧ T N v)) (hw : w = 0) (h7 : ¬ N 77 a = 0) : T N v := by
  rcases hs with ⟨-, x⟩ | ⟨-, x, -⟩ | ⟨-, -, x⟩
  · exact absurd hw x
  · exact absurd x h7
  · exact x
theorem ct_stateOfF {A : Nat → Nat} {h0 : g_H} {d : Nat} {M : xa_M} {post : Option xa_V → xa_M → Prop} {l1 u1 : Int} {a : Int} (hI : xm_Inv M) (ha0 : 0 ≤ a) (ha1 : a ≤ 9) (k : ∀ (v w : Int) (M1 : xa_M), xm_cor M M1 → xm_trn M1 → xm_FT (-1) M w M1 → ((w = 0 ∨ w = -3 ∨ w = -5) ∧ v ≤ 0) → (0 ≤ v → w = 0 ∧ M1 77 a = 1 ∧ 1 ≤ M1 76 a) → ((v = w ∧ ¬ w = 0) ∨ (w = 0 ∧ M1 77 a = 0 ∧ v = -2) ∨ (w = 0 ∧ M1 77 a = 1 ∧ v = 0)) → post (some (0, 0, -5, 0, v)) M1) : xa_C xm_I A h0 (d + 5) 226 [(2, 60, 0, 0, 0), (0, 0, l1, u1, a)] M post := by
  refine xa_C_arg [(2, 60, 0, 0, 0), (0, 0, 0, 9, a)] (xa_svR (xa_svI (fun _ _ _ _ => by omega) xa_sv0)) (xa_C_wk ?_)
  refine xa_meth (Q0 := (3, 1, false, 0, 0, 12)) (by decide +kernel) ⟨rfl, rfl⟩ (full := s_c_226) rfl rfl ?_
  intro hM hv Q hgo
  refine hgo.1 18 [] 0 _ _ _ ?_
  show xa_C xm_I A h0 _ 227 [(2, 60, 0, 0, 0), (0, 0, (-1), (-1), (-1))] M _
  refine xa_C_mok (ct_findTurns (xm_Inv_cor xm_cor_r hI) (fun v1 M1 hv1 hc1 hT1 hF1 hM1 => ?_))
  refine And.intro ?_ ?_
  · intro (c2 : 0 ≤ v1)
    refine And.intro ?_ ?_
    · intro (c3 : (M1 77 a) = 0)
      show xa_wk post (some (0, 0, (-2), (-2), (-2))) M1
      have t := xm_t77 hM1 a ha0 (by omega)
      exact xa_wkI (-2) rfl (fun _ _ => by omega) (k (-2) v1 M1 hc1 hT1 hF1 (by omega) (fun _ => ⟨by omega, by omega, by first | exact hT1 a ha0 (by omega) (by omega) | omega⟩) (by omega))
    · intro (c3 : ¬ (M1 77 a) = 0)
      show xa_wk post (some (0, 0, 0, 0, 0)) M1
      have t := xm_t77 hM1 a ha0 (by omega)
      exact xa_wkI 0 rfl (fun _ _ => by omega) (k 0 v1 M1 hc1 hT1 hF1 (by omega) (fun _ => ⟨by omega, by omega, by first | exact hT1 a ha0 (by omega) (by omega) | omega⟩) (by omega))
  · intro (c2 : v1 < 0)
    show xa_wk post (some (0, 0, (-5), 0, v1)) M1
    have t := xm_t77 hM1 a ha0 (by omega)
    exact xa_wkI v1 rfl (fun _ _ => by omega) (k v1 v1 M1 hc1 hT1 hF1 (by omega) (fun _ => ⟨by omega, by omega, by first | exact hT1 a ha0 (by omega) (by omega) | omega⟩) (by omega))

theorem ct_fairStateF {A : Nat → Nat} {h0 : g_H} {d : Nat} {M : xa_M} {post : Option xa_V → xa_M → Prop} {l1 u1 : Int} {a : Int} (hI : xm_Inv M) (ha0 : 0 ≤ a) (ha1 : a ≤ 9) (k : ∀ (v w : Int) (M1 : xa_M), xm_cor M M1 → xm_trn M1 → xm_FT (-1) M w M1 → ((w = 0 ∨ w = -3 ∨ w = -5) ∧ v ≤ 0) → (0 ≤ v → w = 0 ∧ M1 77 a = 1 ∧ 1 ≤ M1 76 a ∧ M1 76 a ≤ 1000000000 ∧ ((M1 75 a).natAbs : Int) ≤ 1000000000) → ((v = w ∧ ¬ w = 0) ∨ (w = 0 ∧ M1 77 a = 0 ∧ v = -2) ∨ (w = 0 ∧ M1 77 a = 1 ∧ tw_fT a M1 v)) → post (some (0, 0, -5, 0, v)) M1) : xa_C xm_I A h0 (d + 6) 273 [(2, 60, 0, 0, 0), (0, 0, l1, u1, a)] M post := by
  refine xa_C_arg [(2, 60, 0, 0, 0), (0, 0, 0, 9, a)] (xa_svR (xa_svI (fun _ _ _ _ => by omega) xa_sv0)) (xa_C_wk ?_)
  refine xa_meth (Q0 := (3, 1, false, 0, 0, 12)) (by decide +kernel) ⟨rfl, rfl⟩ (full := s_c_273) rfl rfl ?_
  intro hM hv Q hgo
  refine hgo.1 26 [] 0 _ _ _ ?_
  show xa_C xm_I A h0 _ 226 [(2, 60, 0, 0, 0), (0, 0, 0, 9, a)] M _
  refine xa_C_mok (ct_stateOfF (xm_Inv_cor xm_cor_r hI) (by omega) (by omega) (fun v1 w1 M1 hc1 hT1 hF1 hw1 hv1 hs1 hM1 => ?_))
  refine And.intro ?_ ?_
  · intro (c2 : 0 ≤ v1)
    show xa_C xm_I A h0 _ 56 [(1, 0, (-1000000000000000), 1000000000000000, M1 75 a)] M1 _
    refine ct_absb 1000000000000000 (by decide) (by decide) (by decide) (fun a3 ea3 => ?_)
    refine And.intro ?_ ?_
    · intro (c4 : 1000000000 < a3)
      show xa_wk post (some (0, 0, (-5), (-5), (-5))) M1
      exact xa_wkI (-5) rfl (fun _ _ => by omega) (k (-5) w1 M1 hc1 hT1 hF1 (by omega) (fun _ => ⟨by omega, by omega, by omega, by omega, by omega⟩) (by unfold tw_fT tw_L; omega))
    · intro (c4 : a3 ≤ 1000000000)
      refine And.intro ?_ ?_
      · intro (c5 : (M1 76 a) ≤ 1000000000)
        show xa_wk post (some (0, 0, 0, 0, 0)) M1
        exact xa_wkI 0 rfl (fun _ _ => by omega) (k 0 w1 M1 hc1 hT1 hF1 (by omega) (fun _ => ⟨by omega, by omega, by omega, by omega, by omega⟩) (by unfold tw_fT tw_L; omega))
      · intro (c5 : 1000000000 < (M1 76 a))
        show xa_wk post (some (0, 0, (-5), (-5), (-5))) M1
        exact xa_wkI (-5) rfl (fun _ _ => by omega) (k (-5) w1 M1 hc1 hT1 hF1 (by omega) (fun _ => ⟨by omega, by omega, by omega, by omega, by omega⟩) (by unfold tw_fT tw_L; omega))
  · intro (c2 : v1 < 0)
    show xa_wk post (some (0, 0, (-5), 0, v1)) M1
    exact xa_wkI v1 rfl (fun _ _ => by omega) (k v1 w1 M1 hc1 hT1 hF1 (by omega) (fun _ => ⟨by omega, by omega, by omega, by omega, by omega⟩) (by unfold tw_fT tw_L; omega))

/-- where more is asked than of an axle -/
def tw_P (P : Prop) (N0 : xa_M) (a v : Int) (T : xa_M → Int → Prop) : Prop := (¬ P ∧ v = -1) ∨ (P ∧ tw_A N0 a v T)
theorem tw_Pn {P : Prop} {N0 : xa_M} {a : Int} {T : xa_M → Int → Prop} (h : ¬ (0 ≤ a ∧ a ≤ 9)) : tw_P P N0 a (-1) T := by
  by_cases c : P
  · exact Or.inr ⟨c, Or.inl ⟨h, rfl⟩⟩
  · exact Or.inl ⟨c, rfl⟩
theorem tw_P_one {P : Prop} {N0 : xa_M} {a v v' : Int} {T T' : xa_M → Int → Prop} (hr : xm_rng N0) (h : tw_P P N0 a v T) (h' : tw_P P N0 a v' T') (hT : ∀ N N', xm_cor N N' → (∀ c, 0 ≤ c → c < 10 → N' 77 c = N 77 c ∧ (N 77 c = 1 → N' 75 c = N 75 c ∧ N' 76 c = N 76 c)) → N 77 a = 1 → N' 75 a = N 75 a → N' 76 a = N 76 a → T N v → T' N' v' → v = v') : v = v' := by
  rcases h with ⟨h1, h2⟩ | ⟨h1, h2⟩
  · rcases h' with ⟨-, h3⟩ | ⟨h3, -⟩
    · omega
    · exact absurd h3 h1
  · rcases h' with ⟨h3, -⟩ | ⟨-, h3⟩
    · exact absurd h1 h3
    · exact tw_A_one hr h2 h3 hT
theorem cx_55y {b : Bool} {A : Nat → Nat} {h0 : g_H} {d : Nat} {M : xa_M} {post : Option xa_V → xa_M → Prop} {l1 u1 l2 u2 x y : Int} (hx : -9223372036854775807 ≤ x ∧ x ≤ 9223372036854775807) (hy : 1 ≤ y ∧ y ≤ 9223372036854775807) (k : ∀ g : Int, g = (Int.gcd x y : Int) → 1 ≤ g → g ≤ 9223372036854775807 → post (some (1, 0, 0, 9223372036854775807, g)) M) : xa_C (xl_I b) A h0 (d + 2) 55 [(1, 0, l1, u1, x), (1, 0, l2, u2, y)] M post :=
  cx_55g hx (by omega) (fun g hg _ g1 => k g hg (by rw [hg]; exact tu_gp hy.1) g1)
/-- when two axles stand together again -/
def tw_y (U D U' D' v : Int) : Prop := (100000 < (D * D').tdiv (Int.gcd (U * D' - U' * D) (D * D') : Int) ∧ v = -6) ∨ ((D * D').tdiv (Int.gcd (U * D' - U' * D) (D * D') : Int) ≤ 100000 ∧ v = (D * D').tdiv (Int.gcd (U * D' - U' * D) (D * D') : Int))
theorem tw_y1 {U D U' D' v v' : Int} (h : tw_y U D U' D' v) (h' : tw_y U D U' D' v') : v = v' := by
  rcases h with ⟨a, b⟩ | ⟨a, b⟩ <;> rcases h' with ⟨c, d⟩ | ⟨c, d⟩ <;> omega
theorem tw_y2 {U D U' D' g : Int} (hD : 1 ≤ D * D') (hg : g = (Int.gcd (U * D' - U' * D) (D * D') : Int)) (h : (D * D').tdiv g ≤ 100000) : tw_y U D U' D' (xa_w32 ((D * D').tdiv g)) := by
  have p : 0 ≤ (D * D').tdiv g := Int.tdiv_nonneg (by omega) (by rw [hg]; exact Int.natCast_nonneg _)
  rw [xa_w32_id (by omega) (by omega)]
  subst hg
  exact Or.inr ⟨h, rfl⟩
theorem tw_y6 {U D U' D' g : Int} (hg : g = (Int.gcd (U * D' - U' * D) (D * D') : Int)) (h : 100000 < (D * D').tdiv g) : tw_y U D U' D' (-6) := by
  subst hg
  exact Or.inl ⟨h, rfl⟩
/-- of an axle that turns -/
def tw_tT (a b : Int) (N : xa_M) (v : Int) : Prop := (N 77 b = 0 ∧ v = -2) ∨ (N 77 b = 1 ∧ (tw_L N a ∨ tw_L N b) ∧ v = -5) ∨ (N 77 b = 1 ∧ ¬ (tw_L N a ∨ tw_L N b) ∧ tw_y (N 75 a) (N 76 a) (N 75 b) (N 76 b) v)
theorem tw_tT_one {a b v v' : Int} {N N' : xa_M} (b0 : 0 ≤ b ∧ b ≤ 9) (h7 : ∀ c, 0 ≤ c → c < 10 → N' 77 c = N 77 c ∧ (N 77 c = 1 → N' 75 c = N 75 c ∧ N' 76 c = N 76 c)) (e1 : N' 75 a = N 75 a) (e2 : N' 76 a = N 76 a) (h : tw_tT a b N v) (h' : tw_tT a b N' v') : v = v' := by
  obtain ⟨k1, k2⟩ := h7 b b0.1 (by omega)
  unfold tw_tT at h h'
  rcases h with ⟨x1, x2⟩ | ⟨x1, x2, x3⟩ | ⟨x1, x2, x3⟩
  · rw [k1] at h'
    omega
  · obtain ⟨k3, k4⟩ := k2 x1
    unfold tw_L at x2 h'
    rw [k1, e1, e2, k3, k4] at h'
    rcases h' with ⟨y1, -⟩ | ⟨-, -, y3⟩ | ⟨-, y2, -⟩
    · omega
    · omega
    · exact absurd x2 y2
  · obtain ⟨k3, k4⟩ := k2 x1
    unfold tw_L at x2 h'
    rw [k1, e1, e2, k3, k4] at h'
    rcases h' with ⟨y1, -⟩ | ⟨-, y2, -⟩ | ⟨-, -, y3⟩
    · omega
    · exact absurd y2 x2
    · exact tw_y1 x3 y3
def tw_72 (N0 : xa_M) (a b v : Int) : Prop := tw_P (0 ≤ b ∧ b ≤ 9) N0 a v (tw_tT a b)
theorem tw_72_one {N0 : xa_M} {a b v v' : Int} (hr : xm_rng N0) (h : tw_72 N0 a b v) (h' : tw_72 N0 a b v') : v = v' := by
  by_cases c : 0 ≤ b ∧ b ≤ 9
  · exact tw_P_one hr h h' (fun _ _ _ h7 _ e1 e2 t t' => tw_tT_one c h7 e1 e2 t t')
  · rcases h with ⟨-, e⟩ | ⟨e, -⟩
    · rcases h' with ⟨-, e'⟩ | ⟨e', -⟩
      · omega
      · exact absurd e' c
    · exact absurd e c
theorem tw_Lc {C N : xa_M} {a : Int} (h : C 13 a = N 75 a ∧ C 14 a = N 76 a) : tu_L C a ↔ tw_L N a := by
  unfold tu_L tw_L
  rw [h.1, h.2]
/-- the words of 64 bits hold it -/
theorem tw_w {C : xa_M} {a b : Int} (ha : ¬ tu_L C a) (hb : ¬ tu_L C b) (a1 : 1 ≤ C 14 a) (b1 : 1 ≤ C 14 b) : (xa_w64 (C 13 a * C 14 b) = C 13 a * C 14 b ∧ xa_w64 (C 13 b * C 14 a) = C 13 b * C 14 a) ∧ xa_w64 (C 14 a * C 14 b) = C 14 a * C 14 b ∧ xa_w64 (xa_w64 (C 13 a * C 14 b) - xa_w64 (C 13 b * C 14 a)) = C 13 a * C 14 b - C 13 b * C 14 a ∧ (1 ≤ C 14 a * C 14 b ∧ C 14 a * C 14 b ≤ 1000000000000000000) ∧ (-2000000000000000000 ≤ C 13 a * C 14 b - C 13 b * C 14 a ∧ C 13 a * C 14 b - C 13 b * C 14 a ≤ 2000000000000000000) := by
  unfold tu_L at ha hb
  have p1 := xm_mul9 (p := C 13 a) (q := C 14 b) (by omega) (by omega) (by omega) (by omega)
  have p2 := xm_mul9 (p := C 13 b) (q := C 14 a) (by omega) (by omega) (by omega) (by omega)
  have p3 := xm_mul9 (p := C 14 a) (q := C 14 b) (by omega) (by omega) (by omega) (by omega)
  have p4 := Int.mul_pos (show 0 < C 14 a by omega) (show 0 < C 14 b by omega)
  have e1 := xa_w64_id (n := C 13 a * C 14 b) (by omega) (by omega)
  have e2 := xa_w64_id (n := C 13 b * C 14 a) (by omega) (by omega)
  exact ⟨⟨e1, e2⟩, xa_w64_id (by omega) (by omega), by rw [e1, e2]; exact xa_w64_id (by omega) (by omega), ⟨by omega, by omega⟩, by omega, by omega⟩
theorem tu_at {C N : xa_M} {a : Int} (h : tu_R C N) (ha : 0 ≤ a ∧ a < 10) (hn : ¬ C 14 a = 0) : N 77 a = 1 ∧ C 13 a = N 75 a ∧ C 14 a = N 76 a := by
  rcases h a ha.1 ha.2 with ⟨-, e⟩ | ⟨e1, e2, -⟩
  · exact absurd e hn
  · exact ⟨e1, e2⟩
theorem ms_togetherV {A : Nat → Nat} {h0 : g_H} {d : Nat} {M : xa_M} {post : Option xa_V → xa_M → Prop} {l1 u1 l2 u2 : Int} {a b : Int} (hI : xm_Inv M) (k : ∀ (o : Option xa_V) (M1 : xa_M), (∃ lo hi n, o = some (0, 0, lo, hi, n) ∧ tw_72 M a b n) → xm_cor M M1 → post o M1) : xa_C xm_I A h0 (d + 7) 274 [(2, 60, 0, 0, 0), (0, 0, l1, u1, a), (0, 0, l2, u2, b)] M post := by
  refine xa_C_arg [(2, 60, 0, 0, 0), (0, 0, (-2147483648), 2147483647, a), (0, 0, (-2147483648), 2147483647, b)] (xa_svR (xa_svI (fun _ _ _ _ => by omega) (xa_svI (fun _ _ _ _ => by omega) xa_sv0))) ?_
  refine xa_meth (Q0 := (10, 1, false, 0, 0, 12)) (by decide +kernel) ⟨rfl, rfl⟩ (full := s_c_274) rfl rfl ?_
  intro hM hv Q hgo
  refine hgo.1 89 [] 0 _ _ _ ?_
  show xa_C xm_I A h0 _ 215 [(0, 0, (-2147483648), 2147483647, a)] (xa_up M 60 21 0) _
  refine ct_isAxle ?_ ?_
  · intro (i1 : 0 ≤ a ∧ a ≤ 9)
    show xa_C xm_I A h0 _ 215 [(0, 0, (-2147483648), 2147483647, b)] (xa_up M 60 21 0) _
    refine ct_isAxle ?_ ?_
    · intro (i2 : 0 ≤ b ∧ b ≤ 9)
      show xa_C xm_I A h0 _ 227 [(2, 60, 0, 0, 0), (0, 0, (-1), (-1), (-1))] (xa_up M 60 21 0) _
      refine xa_C_mok (ct_findTurns (xm_Inv_cor (xm_cor_f (by omega) xm_cor_r) hI) (fun v3 M3 hv3 hc3 hT3 hF3 hM3 => ?_))
      have hr0 := xm_rng_I hM hI
      have F3 : tw_F M (-1) v3 M3 := ⟨_, xm_cor_f (by omega) xm_cor_r, hF3⟩
      have t3a := xm_t77 hM3 a i1.1 (by omega)
      have t3b := xm_t77 hM3 b i2.1 (by omega)
      refine And.intro ?_ ?_
      · intro (c4 : 0 ≤ v3)
        refine And.intro (show 0 ≤ a ∧ a < 10 by omega) ?_
        refine And.intro ?_ ?_
        · intro (c5 : (M3 77 a) = 0)
          show post (some (0, 0, (-2), (-2), (-2))) M3
          exact k _ _ ⟨_, _, _, rfl, Or.inr ⟨i2, Or.inr ⟨i1, v3, M3, F3, Or.inr (Or.inl ⟨by omega, c5, rfl⟩)⟩⟩⟩ (xm_cor_t (xm_cor_f (by omega) xm_cor_r) hc3)
        · intro (c5 : ¬ (M3 77 a) = 0)
          refine And.intro (show 0 ≤ b ∧ b < 10 by omega) ?_
          refine And.intro ?_ ?_
          · intro (c6 : ¬ (M3 77 b) = 0)
            show xa_C xm_I A h0 _ 273 [(2, 60, 0, 0, 0), (0, 0, (-2147483648), 2147483647, a)] M3 _
            refine xa_C_mok (ct_fairStateF (xm_Inv_cor (xm_cor_t (xm_cor_f (by omega) xm_cor_r) hc3) hI) (by omega) (by omega) (fun v7 w7 M7 hc7 hT7 hF7 hw7 hv7 hs7 hM7 => ?_))
            have F7 : tw_F M (-1) w7 M7 := ⟨M3, xm_cor_t (xm_cor_f (by omega) xm_cor_r) hc3, hF7⟩
            obtain ⟨d7, g7⟩ := tw_F_det hr0 F3 F7
            obtain ⟨-, g7⟩ := g7 (by omega)
            obtain ⟨-, a7, -⟩ := g7 a i1.1 (by omega)
            obtain ⟨-, b7, -⟩ := g7 b i2.1 (by omega)
            refine And.intro ?_ ?_
            · intro (c8 : v7 < 0)
              show post (some (0, 0, (-5), (-5), (-5))) M7
              exact k _ _ ⟨_, _, _, rfl, Or.inr ⟨i2, Or.inr ⟨i1, w7, M7, F7, Or.inr (Or.inr ⟨by omega, by omega, Or.inr (Or.inl ⟨by omega, Or.inl (tw_f5 (tw_s5 hs7 (by omega) (by omega)) c8), rfl⟩)⟩)⟩⟩⟩ (xm_cor_t (xm_cor_t (xm_cor_f (by omega) xm_cor_r) hc3) hc7)
            · intro (c8 : 0 ≤ v7)
              show xa_C xm_I A h0 _ 273 [(2, 60, 0, 0, 0), (0, 0, (-2147483648), 2147483647, b)] M7 _
              refine xa_C_mok (ct_fairStateF (xm_Inv_cor (xm_cor_t (xm_cor_t (xm_cor_f (by omega) xm_cor_r) hc3) hc7) hI) (by omega) (by omega) (fun v9 w9 M9 hc9 hT9 hF9 hw9 hv9 hs9 hM9 => ?_))
              have F9 : tw_F M (-1) w9 M9 := ⟨M7, xm_cor_t (xm_cor_t (xm_cor_f (by omega) xm_cor_r) hc3) hc7, hF9⟩
              obtain ⟨d9, g9⟩ := tw_F_det hr0 F3 F9
              obtain ⟨-, g9⟩ := g9 (by omega)
              obtain ⟨-, a9, -⟩ := g9 a i1.1 (by omega)
              obtain ⟨-, b9, -⟩ := g9 b i2.1 (by omega)
              have dt := xm_FT_det hc7 (xm_rng_c (xm_cor_t (xm_cor_f (by omega) xm_cor_r) hc3) (xm_rng_I hM hI)) hF7 hF9
              have y3 : 0 ≤ v7 → 0 ≤ v9 → (M9 75 a = M7 75 a ∧ M9 76 a = M7 76 a) := fun z1 z2 => by
                have y1 := hv7 z1
                have y2 := hv9 z2
                have d3 := (dt.2 (by omega)).2 a (by omega) (by omega)
                exact d3.2.2 y1.2.1
              have w64 : 0 ≤ v7 → 0 ≤ v9 → (xa_w64 (M9 75 a * M9 76 b) = M9 75 a * M9 76 b ∧ xa_w64 (M9 75 b * M9 76 a) = M9 75 b * M9 76 a ∧ xa_w64 (M9 76 a * M9 76 b) = M9 76 a * M9 76 b ∧ xa_w64 (xa_w64 (M9 75 a * M9 76 b) - xa_w64 (M9 75 b * M9 76 a)) = M9 75 a * M9 76 b - M9 75 b * M9 76 a ∧ 1 ≤ M9 76 a * M9 76 b ∧ (-1000000000000000000 ≤ M9 75 a * M9 76 b ∧ M9 75 a * M9 76 b ≤ 1000000000000000000) ∧ (-1000000000000000000 ≤ M9 75 b * M9 76 a ∧ M9 75 b * M9 76 a ≤ 1000000000000000000)) := fun z1 z2 => by
                have y1 := hv7 z1
                have y2 := hv9 z2
                have y3 := y3 z1 z2
                have p1 := xm_mul9 (p := M9 75 a) (q := M9 76 b) (by omega) (by omega) (by omega) (by omega)
                have p2 := xm_mul9 (p := M9 75 b) (q := M9 76 a) (by omega) (by omega) (by omega) (by omega)
                have p3 := xm_mul9 (p := M9 76 a) (q := M9 76 b) (by omega) (by omega) (by omega) (by omega)
                have p4 := Int.mul_pos (show 0 < M9 76 a by omega) (show 0 < M9 76 b by omega)
                exact ⟨xa_w64_id (by omega) (by omega), xa_w64_id (by omega) (by omega), xa_w64_id (by omega) (by omega), by rw [xa_w64_id (n := M9 75 a * M9 76 b) (by omega) (by omega), xa_w64_id (n := M9 75 b * M9 76 a) (by omega) (by omega), xa_w64_id (by omega) (by omega)], by omega, p1, p2⟩
              refine And.intro ?_ ?_
              · intro (c10 : 0 ≤ v9)
                have nL : ¬ (tw_L M9 a ∨ tw_L M9 b) := by
                  obtain ⟨y1, y2⟩ := y3 c8 c10
                  have n7 := tw_f0 (tw_s5 hs7 (by omega) (by omega)) c8
                  have n9 := tw_f0 (tw_s5 hs9 (by omega) (by omega)) c10
                  unfold tw_L at n7 n9 ⊢
                  rw [y1, y2]
                  omega
                refine And.intro (show 0 ≤ a ∧ a < 10 by omega) ?_
                refine And.intro (show 0 ≤ b ∧ b < 10 by omega) ?_
                refine And.intro (show 0 ≤ b ∧ b < 10 by omega) ?_
                refine And.intro (show 0 ≤ a ∧ a < 10 by omega) ?_
                refine And.intro (show 0 ≤ a ∧ a < 10 by omega) ?_
                refine And.intro (show 0 ≤ b ∧ b < 10 by omega) ?_
                show xa_C xm_I A h0 _ 229 [(1, 0, (-9223372036854775808), 9223372036854775807, xa_w64 ((xa_w64 ((M9 75 a) * (M9 76 b))) - (xa_w64 ((M9 75 b) * (M9 76 a))))), (1, 0, (-9223372036854775808), 9223372036854775807, xa_w64 ((M9 76 a) * (M9 76 b)))] M9 _
                refine ct_gcd2 (by omega) (by omega) (fun g11 eg11 pg11 qg11 => ?_)
                refine And.intro ?_ ?_
                · intro (c12 : ((xa_w64 ((M9 76 a) * (M9 76 b))).tdiv g11) ≤ 100000)
                  show xa_C xm_I A h0 _ 231 [(2, 60, 0, 0, 0), (1, 0, (-9223372036854775808), 9223372036854775807, (xa_w64 ((xa_w64 ((M9 75 a) * (M9 76 b))) - (xa_w64 ((M9 75 b) * (M9 76 a))))).tdiv g11)] (xa_up M9 60 20 0) _
                  refine ct_tell (n := 0) (by first | rfl | (simp [xa_up]; done) | omega) (by omega) (by omega) ?_
                  show post (some (0, 0, (-2147483648), 2147483647, xa_w32 ((xa_w64 ((M9 76 a) * (M9 76 b))).tdiv g11))) (xa_up (xa_up (xa_up M9 60 20 0) 74 0 ((xa_w64 ((xa_w64 ((M9 75 a) * (M9 76 b))) - (xa_w64 ((M9 75 b) * (M9 76 a))))).tdiv g11)) 60 20 1)
                  obtain ⟨q1, q2, q3, q4, q5, -⟩ := w64 c8 c10
                  rw [q4, q3] at eg11
                  rw [q3] at c12
                  exact k _ _ ⟨_, _, _, rfl, Or.inr ⟨i2, Or.inr ⟨i1, w9, M9, F9, Or.inr (Or.inr ⟨by omega, by omega, Or.inr (Or.inr ⟨by omega, nL, by rw [q3]; exact tw_y2 q5 eg11 c12⟩)⟩)⟩⟩⟩ (xm_cor_f (by omega) (xm_cor_a rfl (xm_cor_f (by omega) (xm_cor_t (xm_cor_t (xm_cor_t (xm_cor_f (by omega) xm_cor_r) hc3) hc7) hc9))))
                · intro (c12 : 100000 < ((xa_w64 ((M9 76 a) * (M9 76 b))).tdiv g11))
                  show post (some (0, 0, (-6), (-6), (-6))) M9
                  obtain ⟨q1, q2, q3, q4, q5, -⟩ := w64 c8 c10
                  rw [q4, q3] at eg11
                  rw [q3] at c12
                  exact k _ _ ⟨_, _, _, rfl, Or.inr ⟨i2, Or.inr ⟨i1, w9, M9, F9, Or.inr (Or.inr ⟨by omega, by omega, Or.inr (Or.inr ⟨by omega, nL, tw_y6 eg11 c12⟩)⟩)⟩⟩⟩ (xm_cor_t (xm_cor_t (xm_cor_t (xm_cor_f (by omega) xm_cor_r) hc3) hc7) hc9)
              · intro (c10 : v9 < 0)
                show post (some (0, 0, (-5), (-5), (-5))) M9
                exact k _ _ ⟨_, _, _, rfl, Or.inr ⟨i2, Or.inr ⟨i1, w9, M9, F9, Or.inr (Or.inr ⟨by omega, by omega, Or.inr (Or.inl ⟨by omega, Or.inr (tw_f5 (tw_s5 hs9 (by omega) (by omega)) c10), rfl⟩)⟩)⟩⟩⟩ (xm_cor_t (xm_cor_t (xm_cor_t (xm_cor_f (by omega) xm_cor_r) hc3) hc7) hc9)
          · intro (c6 : (M3 77 b) = 0)
            show post (some (0, 0, (-2), (-2), (-2))) M3
            exact k _ _ ⟨_, _, _, rfl, Or.inr ⟨i2, Or.inr ⟨i1, v3, M3, F3, Or.inr (Or.inr ⟨by omega, by omega, Or.inl ⟨c6, rfl⟩⟩)⟩⟩⟩ (xm_cor_t (xm_cor_f (by omega) xm_cor_r) hc3)
      · intro (c4 : v3 < 0)
        show post (some (0, 0, (-5), 0, v3)) M3
        exact k _ _ ⟨_, _, _, rfl, Or.inr ⟨i2, Or.inr ⟨i1, v3, M3, F3, Or.inl ⟨by omega, rfl⟩⟩⟩⟩ (xm_cor_t (xm_cor_f (by omega) xm_cor_r) hc3)
    · intro (i2 : ¬ (0 ≤ b ∧ b ≤ 9))
      show post (some (0, 0, (-1), (-1), (-1))) (xa_up M 60 21 0)
      exact k _ _ ⟨_, _, _, rfl, Or.inl ⟨i2, rfl⟩⟩ (xm_cor_f (by omega) xm_cor_r)
  · intro (i1 : ¬ (0 ≤ a ∧ a ≤ 9))
    show post (some (0, 0, (-1), (-1), (-1))) (xa_up M 60 21 0)
    exact k _ _ ⟨_, _, _, rfl, tw_Pn i1⟩ (xm_cor_f (by omega) xm_cor_r)

theorem cx_72v {b : Bool} {A : Nat → Nat} {h0 : g_H} {d : Nat} {M : xa_M} {post : Option xa_V → xa_M → Prop} {l1 u1 l2 u2 x1 x2 : Int} {N0 : xa_M} (hM0 : tu_M N0) (hC0 : tu_C M N0) (k : ∀ (lo hi v : Int) (M1 : xa_M), tw_72 N0 x1 x2 v → (∀ (q : Nat) (j : Int), ¬ (12 ≤ q ∧ q ≤ 14) → ¬ (q = 48 ∨ q = 49) → M1 q j = M q j) → post (some (0, 0, lo, hi, v)) M1) : xa_C (xl_I b) A h0 (d + 8) 72 [(2, 0, 0, 0, 0), (0, 0, l1, u1, x1), (0, 0, l2, u2, x2)] M post := by
  refine xa_C_arg [(2, 0, 0, 0, 0), (0, 0, (-2147483648), 2147483647, x1), (0, 0, (-2147483648), 2147483647, x2)] (xa_svR (xa_svI (fun _ _ _ _ => by omega) (xa_svI (fun _ _ _ _ => by omega) (xa_sv0)))) ?_
  refine xa_meth (Q0 := (12, 1, false, 0, 0, 11)) (by decide +kernel) ⟨rfl, rfl⟩ (full := s_c_72) rfl rfl ?_
  intro hM hv Q hgo
  refine hgo.1 84 [] 0 _ _ _ ?_
  show xa_C (xl_I b) A h0 _ 14 [(0, 0, (-2147483648), 2147483647, x1)] M _
  refine cx_14 ?_ ?_ ?_
  · intro (i1 : x1 < 0)
    show post (some (0, 0, (-1), (-1), (-1))) M
    exact k _ _ _ _ (tw_Pn (by omega)) (fun _ _ _ _ => rfl)
  · intro (i2 : 0 ≤ x1) (i3 : 10 ≤ x1)
    show post (some (0, 0, (-1), (-1), (-1))) M
    exact k _ _ _ _ (tw_Pn (by omega)) (fun _ _ _ _ => rfl)
  · intro (i4 : 0 ≤ x1) (i5 : x1 < 10)
    show xa_C (xl_I b) A h0 _ 14 [(0, 0, (-2147483648), 2147483647, x2)] M _
    refine cx_14 ?_ ?_ ?_
    · intro (i6 : x2 < 0)
      show post (some (0, 0, (-1), (-1), (-1))) M
      exact k _ _ _ _ (Or.inl ⟨by omega, rfl⟩) (fun _ _ _ _ => rfl)
    · intro (i7 : 0 ≤ x2) (i8 : 10 ≤ x2)
      show post (some (0, 0, (-1), (-1), (-1))) M
      exact k _ _ _ _ (Or.inl ⟨by omega, rfl⟩) (fun _ _ _ _ => rfl)
    · intro (i9 : 0 ≤ x2) (i10 : x2 < 10)
      show xa_C (xl_I b) A h0 _ 46 [(2, 0, 0, 0, 0), (0, 0, (-2147483648), 2147483647, x1)] M _
      refine cx_46t hM0 hC0 ?_
      intro v101 M102 (i11 : tu_S N0 x1 v101 M102) (i12 : tu_G M M102)
      refine And.intro ?_ ?_
      · intro (c13 : v101 = 0)
        rw [c13] at i11
        have ax := (tu_S0 i11).1
        show xa_C (xl_I b) A h0 _ 50 [(2, 12, 0, 0, 0), (0, 0, (-2147483648), 2147483647, x2)] M102 _
        refine cx_50_12 (show 0 ≤ x2 ∧ x2 < 10 by omega) ?_ ?_
        · intro (i14 : (M102 14 x2) = 0)
          show post (some (0, 0, (-2), (-2), (-2))) M102
          refine k _ _ _ _ (Or.inr ⟨by omega, tw_A_to i11 (fun N _ hR h7 h8 _ => ?_)⟩) (fun q j h1 h2 => i12 q j h1)
          have z := tu_z hR (show 0 ≤ x2 by omega) (by omega)
          exact Or.inl ⟨by omega, rfl⟩
        · intro (i15 : ¬ (M102 14 x2) = 0)
          obtain ⟨ax, N9, t1, t2, t3, t4, t5, t6, t7⟩ := tu_S0 i11
          show xa_C (xl_I b) A h0 _ 69 [(2, 12, 0, 0, 0), (0, 0, (-2147483648), 2147483647, x1)] M102 _
          refine cx_69t (show 0 ≤ x1 ∧ x1 < 10 by omega) t5 ?_
          intro r103 (i16 : (r103 = 1 ∧ tu_L M102 x1) ∨ (r103 = 0 ∧ ¬ tu_L M102 x1))
          refine And.intro ?_ ?_
          · intro (c17 : ¬ r103 = 0)
            show post (some (0, 0, (-5), (-5), (-5))) M102
            refine k _ _ _ _ (Or.inr ⟨by omega, tw_A_to i11 (fun N _ hR h7 h8 _ => ?_)⟩) (fun q j h1 h2 => i12 q j h1)
            obtain ⟨b7, b8⟩ := tu_at hR (show 0 ≤ x2 ∧ x2 < 10 by omega) i15
            rcases i16 with ⟨-, e⟩ | ⟨e, -⟩
            · exact Or.inr (Or.inl ⟨b7, Or.inl ((tw_Lc h8).mp e), rfl⟩)
            · exfalso
              omega
          · intro (c17 : r103 = 0)
            have nLa : ¬ tu_L M102 x1 := by
              rcases i16 with ⟨e, -⟩ | ⟨-, e⟩
              · omega
              · exact e
            show xa_C (xl_I b) A h0 _ 69 [(2, 12, 0, 0, 0), (0, 0, (-2147483648), 2147483647, x2)] M102 _
            refine cx_69t (show 0 ≤ x2 ∧ x2 < 10 by omega) (tu_pq t2 (by omega) (by omega)).1 ?_
            intro r104 (i18 : (r104 = 1 ∧ tu_L M102 x2) ∨ (r104 = 0 ∧ ¬ tu_L M102 x2))
            refine And.intro ?_ ?_
            · intro (c19 : r104 = 0)
              have nLb : ¬ tu_L M102 x2 := by
                rcases i18 with ⟨e, -⟩ | ⟨-, e⟩
                · omega
                · exact e
              have pb := (tu_pq t2 (show 0 ≤ x2 ∧ x2 < 10 by omega) i15).2
              have hw := tw_w nLa nLb t6.1 pb.1
              show xa_C (xl_I b) A h0 _ 54 [(2, 12, 0, 0, 0), (0, 0, (-2147483648), 2147483647, x1)] M102 _
              refine cx_54_12 (show 0 ≤ x1 ∧ x1 < 10 by omega) ?_
              show xa_C (xl_I b) A h0 _ 51 [(2, 12, 0, 0, 0), (0, 0, (-2147483648), 2147483647, x2)] M102 _
              refine cx_51_12 (show 0 ≤ x2 ∧ x2 < 10 by omega) ?_
              show xa_C (xl_I b) A h0 _ 54 [(2, 12, 0, 0, 0), (0, 0, (-2147483648), 2147483647, x2)] M102 _
              refine cx_54_12 (show 0 ≤ x2 ∧ x2 < 10 by omega) ?_
              show xa_C (xl_I b) A h0 _ 51 [(2, 12, 0, 0, 0), (0, 0, (-2147483648), 2147483647, x1)] M102 _
              refine cx_51_12 (show 0 ≤ x1 ∧ x1 < 10 by omega) ?_
              show xa_C (xl_I b) A h0 _ 51 [(2, 12, 0, 0, 0), (0, 0, (-2147483648), 2147483647, x1)] M102 _
              refine cx_51_12 (show 0 ≤ x1 ∧ x1 < 10 by omega) ?_
              show xa_C (xl_I b) A h0 _ 51 [(2, 12, 0, 0, 0), (0, 0, (-2147483648), 2147483647, x2)] M102 _
              refine cx_51_12 (show 0 ≤ x2 ∧ x2 < 10 by omega) ?_
              show xa_C (xl_I b) A h0 _ 55 [(1, 0, (-9223372036854775808), 9223372036854775807, xa_w64 ((xa_w64 ((M102 13 x1) * (M102 14 x2))) - (xa_w64 ((M102 13 x2) * (M102 14 x1))))), (1, 0, (-9223372036854775808), 9223372036854775807, xa_w64 ((M102 14 x1) * (M102 14 x2)))] M102 _
              refine cx_55y (by omega) (by omega) ?_
              intro g105 (i20 : g105 = (Int.gcd (xa_w64 ((xa_w64 ((M102 13 x1) * (M102 14 x2))) - (xa_w64 ((M102 13 x2) * (M102 14 x1))))) (xa_w64 ((M102 14 x1) * (M102 14 x2))) : Int)) (i21 : 1 ≤ g105) (i22 : g105 ≤ 9223372036854775807)
              show xa_C (xl_I b) A h0 _ 21 [(1, 0, (-9223372036854775808), 9223372036854775807, xa_w64 ((M102 14 x1) * (M102 14 x2))), (1, 0, 0, 9223372036854775807, g105)] M102 _
              refine cx_21t rfl (show 1 ≤ g105 ∧ g105 ≤ 9223372036854775807 by omega) ?_
              refine And.intro ?_ ?_
              · intro (c23 : ((xa_w64 ((M102 14 x1) * (M102 14 x2))).tdiv g105) ≤ 100000)
                show xa_C (xl_I b) A h0 _ 59 [(2, 48, 0, 0, 0)] M102 _
                refine cx_59_48 ?_
                show xa_C (xl_I b) A h0 _ 21 [(1, 0, (-9223372036854775808), 9223372036854775807, xa_w64 ((xa_w64 ((M102 13 x1) * (M102 14 x2))) - (xa_w64 ((M102 13 x2) * (M102 14 x1))))), (1, 0, 0, 9223372036854775807, g105)] (xa_up M102 48 1 0) _
                refine cx_21t rfl (show 1 ≤ g105 ∧ g105 ≤ 9223372036854775807 by omega) ?_
                show xa_C (xl_I b) A h0 _ 60 [(2, 48, 0, 0, 0), (1, 0, (-9223372036854775808), 9223372036854775807, (xa_w64 ((xa_w64 ((M102 13 x1) * (M102 14 x2))) - (xa_w64 ((M102 13 x2) * (M102 14 x1))))).tdiv g105)] (xa_up M102 48 1 0) _
                refine cx_60a (by show (0 : Int) ≤ 0; omega) ?_
                intro M106 (i24 : ∀ (q : Nat) (j : Int), ¬ (q = 48 ∨ q = 49) → M106 q j = (xa_up M102 48 1 0) q j) (i25 : (0 : Int) ≤ M106 48 1)
                show post (some (0, 0, (-2147483648), 2147483647, xa_w32 ((xa_w64 ((M102 14 x1) * (M102 14 x2))).tdiv g105))) M106
                refine k _ _ _ _ (Or.inr ⟨by omega, tw_A_to i11 (fun N _ hR h7 h8 _ => ?_)⟩) (fun q j h1 h2 => (i24 q j h2).trans ((xa_up_ne (by omega)).trans (i12 q j h1)))
                obtain ⟨b7, b8⟩ := tu_at hR (show 0 ≤ x2 ∧ x2 < 10 by omega) i15
                refine Or.inr (Or.inr ⟨b7, fun h => h.elim (fun e => nLa ((tw_Lc h8).mpr e)) (fun e => nLb ((tw_Lc b8).mpr e)), ?_⟩)
                rw [← h8.1, ← h8.2, ← b8.1, ← b8.2]
                rw [hw.2.2.1, hw.2.1] at i20
                rw [hw.2.1] at c23
                rw [hw.2.1]
                exact tw_y2 hw.2.2.2.1.1 i20 c23
              · intro (c23 : 100000 < ((xa_w64 ((M102 14 x1) * (M102 14 x2))).tdiv g105))
                show post (some (0, 0, (-6), (-6), (-6))) M102
                refine k _ _ _ _ (Or.inr ⟨by omega, tw_A_to i11 (fun N _ hR h7 h8 _ => ?_)⟩) (fun q j h1 h2 => i12 q j h1)
                obtain ⟨b7, b8⟩ := tu_at hR (show 0 ≤ x2 ∧ x2 < 10 by omega) i15
                refine Or.inr (Or.inr ⟨b7, fun h => h.elim (fun e => nLa ((tw_Lc h8).mpr e)) (fun e => nLb ((tw_Lc b8).mpr e)), ?_⟩)
                rw [← h8.1, ← h8.2, ← b8.1, ← b8.2]
                rw [hw.2.2.1, hw.2.1] at i20
                rw [hw.2.1] at c23
                exact tw_y6 i20 c23
            · intro (c19 : ¬ r104 = 0)
              show post (some (0, 0, (-5), (-5), (-5))) M102
              refine k _ _ _ _ (Or.inr ⟨by omega, tw_A_to i11 (fun N _ hR h7 h8 _ => ?_)⟩) (fun q j h1 h2 => i12 q j h1)
              obtain ⟨b7, b8⟩ := tu_at hR (show 0 ≤ x2 ∧ x2 < 10 by omega) i15
              rcases i18 with ⟨-, e⟩ | ⟨e, -⟩
              · exact Or.inr (Or.inl ⟨b7, Or.inr ((tw_Lc b8).mp e), rfl⟩)
              · exfalso
                omega
      · intro (c13 : ¬ v101 = 0)
        show post (some (0, 0, (-5), 0, v101)) M102
        exact k _ _ _ _ (Or.inr ⟨by omega, tw_A_of i11 (fun e => absurd e (by omega))⟩) (fun q j h1 h2 => i12 q j h1)
