-- turns: what both sides answer
set_option maxRecDepth 20000
theorem cx_60a {b : Bool} {A : Nat → Nat} {h0 : g_H} {d : Nat} {M : xa_M} {post : Option xa_V → xa_M → Prop} {l1 u1 x1 : Int} (h1 : (0 : Int) ≤ M 48 1) (k : ∀ M1 : xa_M, (∀ (q : Nat) (j : Int), ¬ (q = 48 ∨ q = 49) → M1 q j = M q j) → (0 : Int) ≤ M1 48 1 → post none M1) : xa_C (xl_I b) A h0 (d + 2) 60 [(2, 48, 0, 0, 0), (1, 0, l1, u1, x1)] M post :=
  cx_60_48 h1 (fun _ => k M (fun _ _ _ => rfl) h1) (fun h => k _ (fun q j hq => (xa_up_ne (by omega)).trans (xa_up_ne (by omega))) (by
    rw [xa_up_eq, xa_w32_id (by omega) (by omega)]
    omega))
/-- its numbers are too long to show, on the other side -/
def tw_L (N : xa_M) (a : Int) : Prop := 1000000000 < ((N 75 a).natAbs : Int) ∨ 1000000000 < N 76 a
/-- the answer that fairState gives -/
def tw_fT (a : Int) (N : xa_M) (v : Int) : Prop := (tw_L N a ∧ v = -5) ∨ (¬ tw_L N a ∧ v = 0)
theorem tw_fT_one {a : Int} {N N' : xa_M} {v v' : Int} (e1 : N' 75 a = N 75 a) (e2 : N' 76 a = N 76 a) (h : tw_fT a N v) (h' : tw_fT a N' v') : v = v' := by
  unfold tw_fT tw_L at h h'
  rw [e1, e2] at h'
  rcases h with ⟨a1, a2⟩ | ⟨a1, a2⟩
  · rcases h' with ⟨-, b2⟩ | ⟨b1, -⟩
    · omega
    · exact absurd a1 b1
  · rcases h' with ⟨b1, -⟩ | ⟨-, b2⟩
    · exact absurd b1 a1
    · omega
/-- shown, by the search's numbers -/
theorem tw_H {N0 C1 : xa_M} {a v : Int} (h : tu_H N0 a v C1) : tw_A N0 a v (tw_fT a) := by
  rcases h with ⟨h1, h2⟩ | ⟨h1, h2⟩
  · exact tw_A_of h2 (fun e => absurd e h1)
  · refine tw_A_to h1 (fun N _ _ _ e _ => ?_)
    unfold tw_fT tw_L
    unfold tu_L at h2
    rw [e.1, e.2] at h2
    exact h2
theorem ct_stateOfF {A : Nat → Nat} {h0 : g_H} {d : Nat} {M : xa_M} {post : Option xa_V → xa_M → Prop} {l1 u1 : Int} {a : Int} (hI : xm_Inv M) (ha0 : 0 ≤ a) (ha1 : a ≤ 9) (k : ∀ (v w : Int) (M1 : xa_M), xm_cor M M1 → xm_trn M1 → xm_FT (-1) M w M1 → ((w = 0 ∨ w = -3 ∨ w = -5) ∧ v ≤ 0) → (0 ≤ v → w = 0 ∧ M1 77 a = 1 ∧ 1 ≤ M1 76 a) → ((v = w ∧ ¬ w = 0) ∨ (w = 0 ∧ M1 77 a = 0 ∧ v = -2) ∨ (w = 0 ∧ M1 77 a = 1 ∧ v = 0)) → post (some (0, 0, -5, 0, v)) M1) : xa_C xm_I A h0 (d + 5) 226 [(2, 60, 0, 0, 0), (0, 0, l1, u1, a)] M post := by
  refine xa_C_arg [(2, 60, 0, 0, 0), (0, 0, 0, 9, a)] (xa_svR (xa_svI (fun _ _ _ _ => by omega) xa_sv0)) (xa_C_wk ?_)
  refine xa_meth (Q0 := (3, 1, false, 0, 0, 12)) (by decide +kernel) ⟨rfl, rfl⟩ (full := s_c_226) rfl rfl ?_
  intro hM hv Q hgo
  refine hgo.1 18 [] 0 _ _ _ ?_
  show xa_C xm_I A h0 _ 227 [(2, 60, 0, 0, 0), (0, 0, (-1), (-1), (-1))] M _
  refine xa_C_mok (ct_findTurns (xm_Inv_cor xm_cor_r hI) (fun v1 M1 hv1 hc1 hT1 hF1 hM1 => ?_))
  refine And.intro ?_ ?_
  · intro (c2 : 0 ≤ v1)
    refine And.intro ?_ ?_
    · intro (c3 : (M1 77 a) = 0)
      show xa_wk post (some (0, 0, (-2), (-2), (-2))) M1
      have t := xm_t77 hM1 a ha0 (by omega)
      exact xa_wkI (-2) rfl (fun _ _ => by omega) (k (-2) v1 M1 hc1 hT1 hF1 (by omega) (fun _ => ⟨by omega, by omega, by first | exact hT1 a ha0 (by omega) (by omega) | omega⟩) (by omega))
    · intro (c3 : ¬ (M1 77 a) = 0)
      show xa_wk post (some (0, 0, 0, 0, 0)) M1
      have t := xm_t77 hM1 a ha0 (by omega)
      exact xa_wkI 0 rfl (fun _ _ => by omega) (k 0 v1 M1 hc1 hT1 hF1 (by omega) (fun _ => ⟨by omega, by omega, by first | exact hT1 a ha0 (by omega) (by omega) | omega⟩) (by omega))
  · intro (c2 : v1 < 0)
    show xa_wk post (some (0, 0, (-5), 0, v1)) M1
    have t := xm_t77 hM1 a ha0 (by omega)
    exact xa_wkI v1 rfl (fun _ _ => by omega) (k v1 v1 M1 hc1 hT1 hF1 (by omega) (fun _ => ⟨by omega, by omega, by first | exact hT1 a ha0 (by omega) (by omega) | omega⟩) (by omega))

theorem ct_fairStateF {A : Nat → Nat} {h0 : g_H} {d : Nat} {M : xa_M} {post : Option xa_V → xa_M → Prop} {l1 u1 : Int} {a : Int} (hI : xm_Inv M) (ha0 : 0 ≤ a) (ha1 : a ≤ 9) (k : ∀ (v w : Int) (M1 : xa_M), xm_cor M M1 → xm_trn M1 → xm_FT (-1) M w M1 → ((w = 0 ∨ w = -3 ∨ w = -5) ∧ v ≤ 0) → (0 ≤ v → w = 0 ∧ M1 77 a = 1 ∧ 1 ≤ M1 76 a ∧ M1 76 a ≤ 1000000000 ∧ ((M1 75 a).natAbs : Int) ≤ 1000000000) → ((v = w ∧ ¬ w = 0) ∨ (w = 0 ∧ M1 77 a = 0 ∧ v = -2) ∨ (w = 0 ∧ M1 77 a = 1 ∧ tw_fT a M1 v)) → post (some (0, 0, -5, 0, v)) M1) : xa_C xm_I A h0 (d + 6) 273 [(2, 60, 0, 0, 0), (0, 0, l1, u1, a)] M post := by
  refine xa_C_arg [(2, 60, 0, 0, 0), (0, 0, 0, 9, a)] (xa_svR (xa_svI (fun _ _ _ _ => by omega) xa_sv0)) (xa_C_wk ?_)
  refine xa_meth (Q0 := (3, 1, false, 0, 0, 12)) (by decide +kernel) ⟨rfl, rfl⟩ (full := s_c_273) rfl rfl ?_
  intro hM hv Q hgo
  refine hgo.1 26 [] 0 _ _ _ ?_
  show xa_C xm_I A h0 _ 226 [(2, 60, 0, 0, 0), (0, 0, 0, 9, a)] M _
  refine xa_C_mok (ct_stateOfF (xm_Inv_cor xm_cor_r hI) (by omega) (by omega) (fun v1 w1 M1 hc1 hT1 hF1 hw1 hv1 hs1 hM1 => ?_))
  refine And.intro ?_ ?_
  · intro (c2 : 0 ≤ v1)
    show xa_C xm_I A h0 _ 56 [(1, 0, (-1000000000000000), 1000000000000000, M1 75 a)] M1 _
    refine ct_absb 1000000000000000 (by decide) (by decide) (by decide) (fun a3 ea3 => ?_)
    refine And.intro ?_ ?_
    · intro (c4 : 1000000000 < a3)
      show xa_wk post (some (0, 0, (-5), (-5), (-5))) M1
      exact xa_wkI (-5) rfl (fun _ _ => by omega) (k (-5) w1 M1 hc1 hT1 hF1 (by omega) (fun _ => ⟨by omega, by omega, by omega, by omega, by omega⟩) (by unfold tw_fT tw_L; omega))
    · intro (c4 : a3 ≤ 1000000000)
      refine And.intro ?_ ?_
      · intro (c5 : (M1 76 a) ≤ 1000000000)
        show xa_wk post (some (0, 0, 0, 0, 0)) M1
        exact xa_wkI 0 rfl (fun _ _ => by omega) (k 0 w1 M1 hc1 hT1 hF1 (by omega) (fun _ => ⟨by omega, by omega, by omega, by omega, by omega⟩) (by unfold tw_fT tw_L; omega))
      · intro (c5 : 1000000000 < (M1 76 a))
        show xa_wk post (some (0, 0, (-5), (-5), (-5))) M1
        exact xa_wkI (-5) rfl (fun _ _ => by omega) (k (-5) w1 M1 hc1 hT1 hF1 (by omega) (fun _ => ⟨by omega, by omega, by omega, by omega, by omega⟩) (by unfold tw_fT tw_L; omega))
  · intro (c2 : v1 < 0)
    show xa_wk post (some (0, 0, (-5), 0, v1)) M1
    exact xa_wkI v1 rfl (fun _ _ => by omega) (k v1 w1 M1 hc1 hT1 hF1 (by omega) (fun _ => ⟨by omega, by omega, by omega, by omega, by omega⟩) (by unfold tw_fT tw_L; omega))

/-- where more is asked than of an axle -/
def tw_P (P : Prop) (N0 : xa_M) (a v : Int) (T : xa_M → Int → Prop) : Prop := (¬ P ∧ v = -1) ∨ (P ∧ tw_A N0 a v T)
theorem tw_Pn {P : Prop} {N0 : xa_M} {a : Int} {T : xa_M → Int → Prop} (h : ¬ (0 ≤ a ∧ a ≤ 9)) : tw_P P N0 a (-1) T := by
  by_cases c : P
  · exact Or.inr ⟨c, Or.inl ⟨h, rfl⟩⟩
  · exact Or.inl ⟨c, rfl⟩
theorem tw_P_one {P : Prop} {N0 : xa_M} {a v v' : Int} {T T' : xa_M → Int → Prop} (hr : xm_rng N0) (h : tw_P P N0 a v T) (h' : tw_P P N0 a v' T') (hT : ∀ N N', xm_cor N N' → (∀ c, 0 ≤ c → c < 10 → N' 77 c = N 77 c ∧ (N 77 c = 1 → N' 75 c = N 75 c ∧ N' 76 c = N 76 c)) → N 77 a = 1 → N' 75 a = N 75 a → N' 76 a = N 76 a → T N v → T' N' v' → v = v') : v = v' := by
  rcases h with ⟨h1, h2⟩ | ⟨h1, h2⟩
  · rcases h' with ⟨-, h3⟩ | ⟨h3, -⟩
    · omega
    · exact absurd h3 h1
  · rcases h' with ⟨h3, -⟩ | ⟨-, h3⟩
    · exact absurd h1 h3
    · exact tw_A_one hr h2 h3 hT
/-- what show answers -/
def tw_66 (N0 : xa_M) (a y v : Int) : Prop := tw_P (0 ≤ y ∧ y ≤ 2000) N0 a v (tw_fT a)
theorem tw_66_one {N0 : xa_M} {a y v v' : Int} (hr : xm_rng N0) (h : tw_66 N0 a y v) (h' : tw_66 N0 a y v') : v = v' := tw_P_one hr h h' (fun _ _ _ _ _ e1 e2 t t' => tw_fT_one e1 e2 t t')
theorem tw_s4 {N : xa_M} {v v' w a : Int} {T : xa_M → Int → Prop} (hs : (v = w ∧ ¬ w = 0) ∨ (w = 0 ∧ N 77 a = 0 ∧ v = -2) ∨ (w = 0 ∧ N 77 a = 1 ∧ T N v)) (hv : v' = v) : (¬ w = 0 ∧ v' = w) ∨ (w = 0 ∧ N 77 a = 0 ∧ v' = -2) ∨ (w = 0 ∧ N 77 a = 1 ∧ T N v') := by
  subst hv
  rcases hs with ⟨x, y⟩ | h
  · exact Or.inl ⟨y, x⟩
  · exact Or.inr h
theorem ms_showV {A : Nat → Nat} {h0 : g_H} {d : Nat} {M : xa_M} {post : Option xa_V → xa_M → Prop} {l1 u1 l2 u2 : Int} {a b : Int} (hI : xm_Inv M) (k : ∀ (o : Option xa_V) (M1 : xa_M), (∃ lo hi n, o = some (0, 0, lo, hi, n) ∧ tw_66 M a b n) → xm_cor M M1 → post o M1) : xa_C xm_I A h0 (d + 7) 272 [(2, 60, 0, 0, 0), (0, 0, l1, u1, a), (0, 0, l2, u2, b)] M post := by
  refine xa_C_arg [(2, 60, 0, 0, 0), (0, 0, (-2147483648), 2147483647, a), (0, 0, (-2147483648), 2147483647, b)] (xa_svR (xa_svI (fun _ _ _ _ => by omega) (xa_svI (fun _ _ _ _ => by omega) xa_sv0))) ?_
  refine xa_meth (Q0 := (4, 1, false, 0, 0, 12)) (by decide +kernel) ⟨rfl, rfl⟩ (full := s_c_272) rfl rfl ?_
  intro hM hv Q hgo
  refine hgo.1 17 [25] 0 _ _ _ ?_
  show xa_C xm_I A h0 _ 215 [(0, 0, (-2147483648), 2147483647, a)] (xa_up M 60 21 0) _
  refine ct_isAxle ?_ ?_
  · intro (i1 : 0 ≤ a ∧ a ≤ 9)
    show xa_C xm_I A h0 _ 214 [(0, 0, (-2147483648), 2147483647, b), (0, 0, 0, 0, 0), (0, 0, 2000, 2000, 2000)] (xa_up M 60 21 0) _
    refine ct_in ?_ ?_
    · intro (i2 : 0 ≤ b ∧ b ≤ 2000)
      show Q 25 [(0, (2, 60, 0, 0, 0)), (1, (0, 0, (-2147483648), 2147483647, a)), (2, (0, 0, (-2147483648), 2147483647, b))] [] (xa_up M 60 21 0)
      refine hgo.2.1 25 _ [(0, (2, 60, 0, 0, 0)), (1, (0, 0, 0, 9, a)), (2, (0, 0, 0, 2000, b))] _ _ (xa_subR rfl (xa_subI rfl rfl (fun _ _ _ _ => by omega) (xa_subI rfl rfl (fun _ _ _ _ => by omega) xa_sub0))) ?_
      refine hgo.1 34 [] 25 _ _ _ ?_
      show xa_C xm_I A h0 _ 273 [(2, 60, 0, 0, 0), (0, 0, 0, 9, a)] (xa_up M 60 21 0) _
      refine xa_C_mok (ct_fairStateF (xm_Inv_cor (xm_cor_f (by omega) xm_cor_r) hI) (by omega) (by omega) (fun v103 w103 M103 hc103 hT103 hF103 hw103 hv103 hs103 hM103 => ?_))
      refine And.intro ?_ ?_
      · intro (c104 : 0 ≤ v103)
        show xa_C xm_I A h0 _ 56 [(1, 0, (-1000000000000000), 1000000000000000, M103 75 a)] (xa_up M103 60 20 0) _
        refine ct_absb 1000000000000000 (by decide) (by decide) (by decide) (fun a105 ea105 => ?_)
        refine And.intro (show 0 < (M103 76 a) by omega) ?_
        show xa_C xm_I A h0 _ 230 [(2, 60, 0, 0, 0), (1, 0, 0, 999999999999999, (a105 * b) % (M103 76 a)), (1, 0, 0, 1000000000000000, M103 76 a)] (xa_up M103 60 20 0) _
        refine ct_tellPart (n := 0) (by first | rfl | (simp [xa_up]; done)) (by decide) (by decide) (by decide) (by omega) (fun g106 eg106 pg106 qg106 => ?_)
        show post (some (0, 0, 0, 0, 0)) (xa_up (xa_up (xa_up (xa_up (xa_up M103 60 20 0) 74 0 (((a105 * b) % (M103 76 a)).tdiv g106)) 60 20 1) 74 1 ((M103 76 a).tdiv g106)) 60 20 2)
        exact k _ _ ⟨_, _, _, rfl, Or.inr ⟨i2, Or.inr ⟨i1, w103, M103, ⟨_, xm_cor_f (by omega) xm_cor_r, hF103⟩, tw_s4 (v := v103) hs103 (by omega)⟩⟩⟩ (xm_cor_f (by omega) (xm_cor_a rfl (xm_cor_f (by omega) (xm_cor_a rfl (xm_cor_f (by omega) (xm_cor_t (xm_cor_f (by omega) xm_cor_r) hc103))))))
      · intro (c104 : v103 < 0)
        show post (some (0, 0, (-5), 0, v103)) M103
        exact k _ _ ⟨_, _, _, rfl, Or.inr ⟨i2, Or.inr ⟨i1, w103, M103, ⟨_, xm_cor_f (by omega) xm_cor_r, hF103⟩, tw_s4 hs103 rfl⟩⟩⟩ (xm_cor_t (xm_cor_f (by omega) xm_cor_r) hc103)
    · intro (i2 : ¬ (0 ≤ b ∧ b ≤ 2000))
      show post (some (0, 0, (-1), (-1), (-1))) (xa_up M 60 21 0)
      exact k _ _ ⟨_, _, _, rfl, Or.inl ⟨i2, rfl⟩⟩ (xm_cor_f (by omega) xm_cor_r)
  · intro (i1 : ¬ (0 ≤ a ∧ a ≤ 9))
    show post (some (0, 0, (-1), (-1), (-1))) (xa_up M 60 21 0)
    exact k _ _ ⟨_, _, _, rfl, tw_Pn i1⟩ (xm_cor_f (by omega) xm_cor_r)

theorem cx_55y {b : Bool} {A : Nat → Nat} {h0 : g_H} {d : Nat} {M : xa_M} {post : Option xa_V → xa_M → Prop} {l1 u1 l2 u2 x y : Int} (hx : -9223372036854775807 ≤ x ∧ x ≤ 9223372036854775807) (hy : 1 ≤ y ∧ y ≤ 9223372036854775807) (k : ∀ g : Int, g = (Int.gcd x y : Int) → 1 ≤ g → g ≤ 9223372036854775807 → post (some (1, 0, 0, 9223372036854775807, g)) M) : xa_C (xl_I b) A h0 (d + 2) 55 [(1, 0, l1, u1, x), (1, 0, l2, u2, y)] M post :=
  cx_55g hx (by omega) (fun g hg _ g1 => k g hg (by rw [hg]; exact tu_gp hy.1) g1)
/-- shown has said 0 -/
theorem tu_H0 {N0 C1 : xa_M} {a : Int} (h : tu_H N0 a 0 C1) : tu_S N0 a 0 C1 ∧ ¬ tu_L C1 a := by
  rcases h with ⟨h1, -⟩ | ⟨h1, ⟨-, e⟩ | ⟨e, -⟩⟩
  · exact absurd rfl h1
  · omega
  · exact ⟨h1, e⟩
theorem tw_tm {x y : Int} (h : 1 ≤ y) : -y < x.tmod y ∧ x.tmod y < y := by
  have a := Int.tmod_lt_of_pos x (show 0 < y by omega)
  have b := Int.lt_tmod_of_pos x (show 0 < y by omega)
  omega
theorem cx_70r {b : Bool} {A : Nat → Nat} {h0 : g_H} {d : Nat} {M : xa_M} {post : Option xa_V → xa_M → Prop} {l1 u1 l2 u2 x y : Int} (h1 : 1 ≤ y) (k : ∀ r : Int, -y < r ∧ r < y → post (some (1, 0, -9223372036854775808, 9223372036854775807, r)) M) : xa_C (xl_I b) A h0 (d + 1) 70 [(1, 0, l1, u1, x), (1, 0, l2, u2, y)] M post := by
  refine xa_C_wk ?_
  refine xa_C_arg [(1, 0, (-9223372036854775808), 9223372036854775807, x), (1, 0, 1, 9223372036854775807, y)] (xa_svL (fun _ _ _ _ => by omega) (xa_svL (fun _ _ _ _ => by omega) xa_sv0)) ?_
  refine xa_meth (Q0 := (4, 3, false, 0, 0, 11)) (by decide +kernel) ⟨rfl, rfl⟩ (full := s_c_70) rfl rfl ?_
  intro hM hv Q hgo
  refine hgo.1 11 [] 0 _ _ _ ?_
  show xa_wk post (some (1, 0, (-9223372036854775808), 9223372036854775807, x.tmod y)) M
  exact xa_wkL _ rfl (fun _ _ => by omega) (k _ (tw_tm h1))
theorem cx_71a {b : Bool} {A : Nat → Nat} {h0 : g_H} {d : Nat} {M : xa_M} {post : Option xa_V → xa_M → Prop} {l1 u1 l2 u2 x y : Int} (h0' : (0 : Int) ≤ M 48 1) (hx : -9223372036854775807 ≤ x ∧ x ≤ 9223372036854775807) (hy : 1 ≤ y ∧ y ≤ 9223372036854775807) (k : ∀ M1 : xa_M, (∀ (q : Nat) (j : Int), ¬ (q = 48 ∨ q = 49) → M1 q j = M q j) → (0 : Int) ≤ M1 48 1 → post none M1) : xa_C (xl_I b) A h0 (d + 3) 71 [(2, 48, 0, 0, 0), (1, 0, l1, u1, x), (1, 0, l2, u2, y)] M post := by
  refine xa_C_arg [(2, 48, 0, 0, 0), (1, 0, (-9223372036854775808), 9223372036854775807, x), (1, 0, (-9223372036854775808), 9223372036854775807, y)] (xa_svR (xa_svL (fun _ _ _ _ => by omega) (xa_svL (fun _ _ _ _ => by omega) xa_sv0))) ?_
  refine xa_meth (Q0 := (7, 0, false, 0, 0, 6)) (by decide +kernel) ⟨rfl, rfl⟩ (full := s_c_71) rfl rfl ?_
  intro hM hv Q hgo
  refine hgo.1 19 [] 0 _ _ _ ?_
  show xa_C (xl_I b) A h0 _ 55 [(1, 0, (-9223372036854775808), 9223372036854775807, x), (1, 0, (-9223372036854775808), 9223372036854775807, y)] M _
  refine cx_55y (by omega) (by omega) ?_
  intro g101 (i1 : g101 = (Int.gcd (x) (y) : Int)) (i2 : 1 ≤ g101) (i3 : g101 ≤ 9223372036854775807)
  show xa_C (xl_I b) A h0 _ 21 [(1, 0, (-9223372036854775808), 9223372036854775807, x), (1, 0, 0, 9223372036854775807, g101)] M _
  refine cx_21t rfl (show 1 ≤ g101 ∧ g101 ≤ 9223372036854775807 by omega) ?_
  show xa_C (xl_I b) A h0 _ 60 [(2, 48, 0, 0, 0), (1, 0, (-9223372036854775808), 9223372036854775807, (x).tdiv g101)] M _
  refine cx_60a (by show (0 : Int) ≤ M 48 1; omega) ?_
  intro M102 (i4 : ∀ (q : Nat) (j : Int), ¬ (q = 48 ∨ q = 49) → M102 q j = M q j) (i5 : (0 : Int) ≤ M102 48 1)
  show xa_C (xl_I b) A h0 _ 21 [(1, 0, (-9223372036854775808), 9223372036854775807, y), (1, 0, 0, 9223372036854775807, g101)] M102 _
  refine cx_21t rfl (show 1 ≤ g101 ∧ g101 ≤ 9223372036854775807 by omega) ?_
  show xa_C (xl_I b) A h0 _ 60 [(2, 48, 0, 0, 0), (1, 0, (-9223372036854775808), 9223372036854775807, (y).tdiv g101)] M102 _
  refine cx_60a (by show (0 : Int) ≤ M102 48 1; omega) ?_
  intro M103 (i6 : ∀ (q : Nat) (j : Int), ¬ (q = 48 ∨ q = 49) → M103 q j = M102 q j) (i7 : (0 : Int) ≤ M103 48 1)
  show post none M103
  exact k _ (fun q j h2 => (i6 q j h2).trans (i4 q j h2)) i7
theorem cx_67 {b : Bool} {A : Nat → Nat} {h0 : g_H} {d : Nat} {M : xa_M} {post : Option xa_V → xa_M → Prop} {l0 u0 : Int} {x1 : Int} (k1 : (x1 < 0) → post (some (0, 0, 0, 0, 0)) M) (k2 : (0 ≤ x1) → (2000 < x1) → post (some (0, 0, 0, 0, 0)) M) (k3 : (0 ≤ x1) → (x1 ≤ 2000) → post (some (0, 0, 1, 1, 1)) M) : xa_C (xl_I b) A h0 (d + 1) 67 [(0, 0, l0, u0, x1)] M post := by
  refine xa_C_arg [(0, 0, (-2147483648), 2147483647, x1)] (xa_svI (fun _ _ _ _ => by omega) (xa_sv0)) ?_
  refine xa_meth (Q0 := (1, 2, false, 0, 0, 11)) (by decide +kernel) ⟨rfl, rfl⟩ (full := s_c_67) rfl rfl ?_
  intro hM hv Q hgo
  refine hgo.1 12 [] 0 _ _ _ ?_
  refine And.intro ?_ ?_
  · intro (c1 : x1 < 0)
    show post (some (0, 0, 0, 0, 0)) M
    exact k1 c1
  · intro (c1 : 0 ≤ x1)
    refine And.intro ?_ ?_
    · intro (c2 : 2000 < x1)
      show post (some (0, 0, 0, 0, 0)) M
      exact k2 c1 c2
    · intro (c2 : x1 ≤ 2000)
      show post (some (0, 0, 1, 1, 1)) M
      exact k3 c1 c2
theorem cx_66v {b : Bool} {A : Nat → Nat} {h0 : g_H} {d : Nat} {M : xa_M} {post : Option xa_V → xa_M → Prop} {l1 u1 l2 u2 x1 x2 : Int} {N0 : xa_M} (hM0 : tu_M N0) (hC0 : tu_C M N0) (k : ∀ (lo hi v : Int) (M1 : xa_M), tw_66 N0 x1 x2 v → (∀ (q : Nat) (j : Int), ¬ (12 ≤ q ∧ q ≤ 14) → ¬ (q = 48 ∨ q = 49) → M1 q j = M q j) → post (some (0, 0, lo, hi, v)) M1) : xa_C (xl_I b) A h0 (d + 9) 66 [(2, 0, 0, 0, 0), (0, 0, l1, u1, x1), (0, 0, l2, u2, x2)] M post := by
  refine xa_C_arg [(2, 0, 0, 0, 0), (0, 0, (-2147483648), 2147483647, x1), (0, 0, (-2147483648), 2147483647, x2)] (xa_svR (xa_svI (fun _ _ _ _ => by omega) (xa_svI (fun _ _ _ _ => by omega) (xa_sv0)))) ?_
  refine xa_meth (Q0 := (6, 1, false, 0, 0, 11)) (by decide +kernel) ⟨rfl, rfl⟩ (full := s_c_66) rfl rfl ?_
  intro hM hv Q hgo
  refine hgo.1 37 [] 0 _ _ _ ?_
  show xa_C (xl_I b) A h0 _ 67 [(0, 0, (-2147483648), 2147483647, x2)] M _
  refine cx_67 ?_ ?_ ?_
  · intro (i1 : x2 < 0)
    show post (some (0, 0, (-1), (-1), (-1))) M
    exact k _ _ _ _ (Or.inl ⟨by omega, rfl⟩) (fun _ _ _ _ => rfl)
  · intro (i2 : 0 ≤ x2) (i3 : 2000 < x2)
    show post (some (0, 0, (-1), (-1), (-1))) M
    exact k _ _ _ _ (Or.inl ⟨by omega, rfl⟩) (fun _ _ _ _ => rfl)
  · intro (i4 : 0 ≤ x2) (i5 : x2 ≤ 2000)
    show xa_C (xl_I b) A h0 _ 68 [(2, 0, 0, 0, 0), (0, 0, (-2147483648), 2147483647, x1)] M _
    refine cx_68t hM0 hC0 ?_
    intro v101 M102 (i6 : tu_H N0 x1 v101 M102) (i7 : tu_G M M102)
    refine And.intro ?_ ?_
    · intro (c8 : v101 = 0)
      rw [c8] at i6
      obtain ⟨hs0, nL⟩ := tu_H0 i6
      obtain ⟨ax, N9, t1, t2, t3, t4, t5, t6, t7⟩ := tu_S0 hs0
      show xa_C (xl_I b) A h0 _ 51 [(2, 12, 0, 0, 0), (0, 0, (-2147483648), 2147483647, x1)] M102 _
      refine cx_51_12 (show 0 ≤ x1 ∧ x1 < 10 by omega) ?_
      show xa_C (xl_I b) A h0 _ 59 [(2, 48, 0, 0, 0)] M102 _
      refine cx_59_48 ?_
      show xa_C (xl_I b) A h0 _ 54 [(2, 12, 0, 0, 0), (0, 0, (-2147483648), 2147483647, x1)] (xa_up M102 48 1 0) _
      refine cx_54_12 (show 0 ≤ x1 ∧ x1 < 10 by omega) ?_
      show xa_C (xl_I b) A h0 _ 56 [(1, 0, (-9223372036854775808), 9223372036854775807, M102 13 x1)] (xa_up M102 48 1 0) _
      refine ct_abs (lo := 0) (hi := 1000000000000000) (show -9223372036854775808 < (M102 13 x1) by omega) (fun a103 h104 => ⟨by omega, ?_⟩)
      show xa_C (xl_I b) A h0 _ 70 [(1, 0, (-9223372036854775808), 9223372036854775807, xa_w64 (a103 * x2)), (1, 0, (-9223372036854775808), 9223372036854775807, M102 14 x1)] (xa_up M102 48 1 0) _
      refine cx_70r (show 1 ≤ (M102 14 x1) by omega) ?_
      intro r105 (i9 : -(M102 14 x1) < r105 ∧ r105 < (M102 14 x1))
      show xa_C (xl_I b) A h0 _ 71 [(2, 48, 0, 0, 0), (1, 0, (-9223372036854775808), 9223372036854775807, r105), (1, 0, (-9223372036854775808), 9223372036854775807, M102 14 x1)] (xa_up M102 48 1 0) _
      refine cx_71a (by show (0 : Int) ≤ 0; omega) (by omega) (by omega) ?_
      intro M106 (i10 : ∀ (q : Nat) (j : Int), ¬ (q = 48 ∨ q = 49) → M106 q j = (xa_up M102 48 1 0) q j) (i11 : (0 : Int) ≤ M106 48 1)
      show post (some (0, 0, 0, 0, 0)) M106
      exact k _ _ _ _ (Or.inr ⟨by omega, tw_H i6⟩) (fun q j h1 h2 => (i10 q j h2).trans ((xa_up_ne (by omega)).trans (i7 q j h1)))
    · intro (c8 : ¬ v101 = 0)
      show post (some (0, 0, (-5), 0, v101)) M102
      exact k _ _ _ _ (Or.inr ⟨by omega, tw_H i6⟩) (fun q j h1 h2 => i7 q j h1)
