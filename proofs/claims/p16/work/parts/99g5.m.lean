-- the calls that change wheels and meshes (made by wip/u/mkm.py)
set_option maxRecDepth 20000
/-- what a call does: where it is well called, where not -/
def iv_P (ok : Prop) (x : Int) (U : xa_M) (y : Int) (V : xa_M) (o : Option xa_V) (M1 : xa_M) : Prop := (ok ∧ (∃ lo hi, o = some (0, 0, lo, hi, x)) ∧ M1 = U) ∨ (¬ ok ∧ (∃ lo hi, o = some (0, 0, lo, hi, y)) ∧ M1 = V)
/-- the class's numbers, the reference's -/
def xj (U V : xa_M) : xa_M := fun q j => if q < 60 then U q j else V q j
theorem iv_xrun {A : Nat → Nat} {W : y_W} {b : Bool} {h : g_H} {d jx : Nat} {vs : List xa_V} {xs : List Value} (hJ : iv_JW A W b h) (hx : xa_gS A vs xs) {Px : Option xa_V → xa_M → Prop} (hC : xa_C (xl_I b) A h d jx vs (iv_num h) Px) : g_run d jx xs h 0 0 (fun r h1 => ∃ v M1, Px v M1 ∧ xa_gR A v r ∧ xa_H (xl_I b) A M1 h h1) :=
  hC h xs (xc_F (xl_fit b) (iv_iW_inv hJ.1) hJ.2.1) hx _ (fun v M' x h' hv hr hH' => ⟨v, M', hv, hr, hH'⟩)
theorem iv_mrun {A : Nat → Nat} {h1 : g_H} {M : xa_M} {d jm : Nat} {vs : List xa_V} {xs : List Value} (hM : xa_H xm_I A M h1 h1) (hx : xa_gS A vs xs) {Pm : Option xa_V → xa_M → Prop} (hC : xa_C xm_I A h1 d jm vs M Pm) : g_run d jm xs h1 0 0 (fun r h2 => ∃ v M2, Pm v M2 ∧ xa_gR A v r ∧ xa_H xm_I A M2 h1 h2) :=
  hC h1 xs hM hx _ (fun v M' x h' hv hr hH' => ⟨v, M', hv, hr, hH'⟩)
theorem iv_xj {A : Nat → Nat} {W : y_W} {b : Bool} {h : g_H} {M : xa_M} (hJ : iv_JW A W b h) (hM : xa_H xm_I A M h h) : lm_R b (xj (iv_num h) M) := by
  refine lm_R_k (fun q j hC => ?_) hJ.2.2.1
  unfold xj
  by_cases hq : q < 60
  · rw [if_pos hq]
  · rw [if_neg hq, iv_num_m hM hC hq]
/-- both have gone: what holds behind them -/
theorem iv_join {A : Nat → Nat} {W : y_W} {b : Bool} {h h1 h2 : g_H} {M M1 M2 : xa_M} (hJ : iv_JW A W b h) (hM : xa_H xm_I A M h h) (hX : xa_H (xl_I b) A M1 h h1) (hM2 : xa_H xm_I A M2 h1 h2) (hInv : xm_Inv M2) (k4 : ∀ x, M2 104 x = M 104 x) (k5 : ∀ x, M2 105 x = M 105 x) (hR : lm_R b (xj M1 M2)) : iv_JW A W b h2 := by
  obtain ⟨hI1, km⟩ := xc_B (xl_fit b) hJ.1 hX
  have hM1 := km M hM
  have low : ∀ q, ¬ (60 ≤ q ∧ q ≤ 105) → h2[q]? = h1[q]? := fun q hq => hM2.2.2 q (xm_I_none hq)
  have out : ∀ q, ¬ q < 60 → h1[q]? = h[q]? := fun q hq => hX.2.2 q (xl_no hq)
  refine ⟨⟨iv_cls_kW hI1.1 hI1.2.1 hM2, hI1.2.1, M2, ⟨rfl, hM2.2.1, fun _ _ => rfl⟩, hInv⟩, iv_F_h (fun q hq => low q (by omega)) (iv_F_X hX), lm_R_k (fun q j hC => ?_) hR, iv_kept_k (List.prefix_refl W) ?_ ?_ ?_ ?_ ?_ hJ.2.2.2⟩
  · unfold xj
    by_cases hq : q < 60
    · rw [if_pos hq, iv_num_h (low q (by omega)) j, iv_num_x hX hC hq]
    · rw [if_neg hq, iv_num_m hM2 hC hq]
  · intro i hi
    unfold iv_ct
    rw [low 11 (by omega), hX.2.2 11 rfl]
  · intro i hi
    rw [iv_105 hM2 (by omega) (by omega), iv_105 hM (by omega) (by omega), k5]
  · intro x x0 x1
    rw [iv_104 hM2 x0 x1, iv_104 hM x0 x1, k4]
  · intro p a f hp hw e
    exact ⟨f, by rw [low p (by omega), out p (by omega)]; exact e, fun _ _ => rfl⟩
  · intro k p a F hk hp hw e
    exact ⟨F, by rw [low p (by omega), out p (by omega)]; exact e, fun _ _ _ => rfl⟩
theorem iv_gRi {A : Nat → Nat} {lo hi x : Int} {r : Option Value} (h : xa_gR A (some (0, 0, lo, hi, x)) r) : ∃ z : Int32, r = some (.int z) ∧ z.toInt = x := by
  obtain ⟨y, rfl, z, rfl, hz, -⟩ := h
  exact ⟨z, rfl, hz⟩
/-- a pair of calls told by one word -/
theorem iv_armP {A : Nat → Nat} {jx jm : Nat} {spec : List Nat} {cmp : Bool} (H : ∀ (W : y_W) (b : Bool) (h : g_H) (as : List Value) (M : xa_M), iv_JW A W b h → xa_H xm_I A M h h → xm_Inv M → iv_sp spec as → lm_R b (xj (iv_num h) M) → ∃ (vs ms : List xa_V) (ok : Prop) (x y : Int) (Ux Um Vx Vm : xa_M), xa_gS A vs (.ref (A 0) :: as) ∧ xa_gS A ms (.ref (A 60) :: as) ∧ xa_C (xl_I b) A h 60 jx vs (iv_num h) (iv_P ok x Ux y Vx) ∧ (∀ h1, xa_C xm_I A h1 60 jm ms M (fun o M2 => iv_P ok x Um y Vm o M2 ∧ xm_Inv M2)) ∧ (ok → lm_R b (xj Ux Um) ∧ (∀ z, Um 104 z = M 104 z) ∧ ∀ z, Um 105 z = M 105 z) ∧ (¬ ok → lm_R b (xj Vx Vm) ∧ (∀ z, Vm 104 z = M 104 z) ∧ ∀ z, Vm 105 z = M 105 z)) : iv_pair (iv_J A) A jx jm spec cmp false := by
  intro h as hI hs
  obtain ⟨W, b, hJ⟩ := hI
  obtain ⟨M, hM, hInv⟩ := hJ.1.2.2
  obtain ⟨vs, ms, ok, x, y, Ux, Um, Vx, Vm, g1, g2, g3, g4, g5, g6⟩ := H W b h as M hJ hM hInv hs (iv_xj hJ hM)
  refine ⟨0, 0, by decide, by decide, g_run_mono (iv_xrun hJ g1 g3) (fun r1 h1 hp => ?_)⟩
  obtain ⟨v, M1, hP, hr, hX⟩ := hp
  obtain ⟨hI1, km⟩ := xc_B (xl_fit b) hJ.1 hX
  have hM1 := km M hM
  have fin : ∀ (z : Int32) (n : Int), z.toInt = n → (∀ o M2, iv_P ok x Um y Vm o M2 → (∃ lo hi, o = some (0, 0, lo, hi, n)) ∧ (∀ z, M2 104 z = M 104 z) ∧ (∀ z, M2 105 z = M 105 z) ∧ lm_R b (xj M1 M2)) → g_run 60 jm (.ref (A 60) :: as) h1 0 0 (fun r2 h2 => (∃ v2, iv_an false r2 v2 ∧ (cmp = true → z = v2)) ∧ iv_J A h2) := by
    intro z n hz hf
    refine g_run_mono (iv_mrun hM1 g2 (g4 h1)) (fun r2 h2 hp2 => ?_)
    obtain ⟨v2, M2, hP2, hr2, hM2⟩ := hp2
    obtain ⟨⟨lo, hi, rfl⟩, k4, k5, hR⟩ := hf v2 M2 hP2.1
    obtain ⟨z2, rfl, hz2⟩ := iv_gRi hr2
    exact ⟨⟨z2, rfl, fun _ => Int32.toInt_inj.mp (by rw [hz, hz2])⟩, W, b, iv_join hJ hM hX hM2 hP2.2 k4 k5 hR⟩
  rcases hP with ⟨hok, ⟨lo, hi, rfl⟩, rfl⟩ | ⟨hok, ⟨lo, hi, rfl⟩, rfl⟩
  · obtain ⟨z, rfl, hz⟩ := iv_gRi hr
    refine ⟨z, rfl, iv_sh_ok (iv_iW_inv hI1), fin z x hz (fun o M2 h2 => ?_)⟩
    rcases h2 with ⟨-, e, rfl⟩ | ⟨h3, -, -⟩
    · obtain ⟨r1, r2, r3⟩ := g5 hok
      exact ⟨e, r2, r3, r1⟩
    · exact absurd hok h3
  · obtain ⟨z, rfl, hz⟩ := iv_gRi hr
    refine ⟨z, rfl, iv_sh_ok (iv_iW_inv hI1), fin z y hz (fun o M2 h2 => ?_)⟩
    rcases h2 with ⟨h3, -, -⟩ | ⟨-, e, rfl⟩
    · exact absurd h3 hok
    · obtain ⟨r1, r2, r3⟩ := g6 hok
      exact ⟨e, r2, r3, r1⟩
def lw_ok (a b c e n : Int) : Prop := 10 ≤ a ∧ a ≤ b ∧ b ≤ 400 ∧ 0 ≤ c ∧ c ≤ 9 ∧ 0 ≤ e ∧ e ≤ 9 ∧ n < 14
theorem cx_13 {b : Bool} {A : Nat → Nat} {h0 : g_H} {d : Nat} {M : xa_M} {post : Option xa_V → xa_M → Prop} {l0 u0 l1 u1 : Int} {x1 x2 : Int} (k1 : (x1 < 10) → post (some (0, 0, 0, 0, 0)) M) (k2 : (10 ≤ x1) → (400 < x2) → post (some (0, 0, 0, 0, 0)) M) (k3 : (10 ≤ x1) → (x2 ≤ 400) → (x2 < x1) → post (some (0, 0, 0, 0, 0)) M) (k4 : (10 ≤ x1) → (x2 ≤ 400) → (x1 ≤ x2) → post (some (0, 0, 1, 1, 1)) M) : xa_C (xl_I b) A h0 (d + 1) 13 [(0, 0, l0, u0, x1), (0, 0, l1, u1, x2)] M post := by
  refine xa_C_arg [(0, 0, (-2147483648), 2147483647, x1), (0, 0, (-2147483648), 2147483647, x2)] (xa_svI (fun _ _ _ _ => by omega) (xa_svI (fun _ _ _ _ => by omega) (xa_sv0))) ?_
  refine xa_meth (Q0 := (2, 2, false, 0, 0, 11)) (by decide +kernel) ⟨rfl, rfl⟩ (full := s_c_13) rfl rfl ?_
  intro hM hv Q hgo
  refine hgo.1 16 [] 0 _ _ _ ?_
  refine And.intro ?_ ?_
  · intro (c1 : x1 < 10)
    show post (some (0, 0, 0, 0, 0)) M
    exact k1 c1
  · intro (c1 : 10 ≤ x1)
    refine And.intro ?_ ?_
    · intro (c2 : 400 < x2)
      show post (some (0, 0, 0, 0, 0)) M
      exact k2 c1 c2
    · intro (c2 : x2 ≤ 400)
      refine And.intro ?_ ?_
      · intro (c3 : x2 < x1)
        show post (some (0, 0, 0, 0, 0)) M
        exact k3 c1 c2 c3
      · intro (c3 : x1 ≤ x2)
        show post (some (0, 0, 1, 1, 1)) M
        exact k4 c1 c2 c3
theorem cx_14 {b : Bool} {A : Nat → Nat} {h0 : g_H} {d : Nat} {M : xa_M} {post : Option xa_V → xa_M → Prop} {l0 u0 : Int} {x1 : Int} (k1 : (x1 < 0) → post (some (0, 0, 0, 0, 0)) M) (k2 : (0 ≤ x1) → (10 ≤ x1) → post (some (0, 0, 0, 0, 0)) M) (k3 : (0 ≤ x1) → (x1 < 10) → post (some (0, 0, 1, 1, 1)) M) : xa_C (xl_I b) A h0 (d + 1) 14 [(0, 0, l0, u0, x1)] M post := by
  refine xa_C_arg [(0, 0, (-2147483648), 2147483647, x1)] (xa_svI (fun _ _ _ _ => by omega) (xa_sv0)) ?_
  refine xa_meth (Q0 := (1, 2, false, 0, 0, 11)) (by decide +kernel) ⟨rfl, rfl⟩ (full := s_c_14) rfl rfl ?_
  intro hM hv Q hgo
  refine hgo.1 12 [] 0 _ _ _ ?_
  refine And.intro ?_ ?_
  · intro (c1 : x1 < 0)
    show post (some (0, 0, 0, 0, 0)) M
    exact k1 c1
  · intro (c1 : 0 ≤ x1)
    refine And.intro ?_ ?_
    · intro (c2 : 10 ≤ x1)
      show post (some (0, 0, 0, 0, 0)) M
      exact k2 c1 c2
    · intro (c2 : x1 < 10)
      show post (some (0, 0, 1, 1, 1)) M
      exact k3 c1 c2
theorem cx_15 {b : Bool} {A : Nat → Nat} {h0 : g_H} {d : Nat} {M : xa_M} {post : Option xa_V → xa_M → Prop} {l0 u0 : Int} {x1 : Int} (k1 : (x1 < 0) → post (some (0, 0, 0, 0, 0)) M) (k2 : (0 ≤ x1) → (10 ≤ x1) → post (some (0, 0, 0, 0, 0)) M) (k3 : (0 ≤ x1) → (x1 < 10) → post (some (0, 0, 1, 1, 1)) M) : xa_C (xl_I b) A h0 (d + 1) 15 [(0, 0, l0, u0, x1)] M post := by
  refine xa_C_arg [(0, 0, (-2147483648), 2147483647, x1)] (xa_svI (fun _ _ _ _ => by omega) (xa_sv0)) ?_
  refine xa_meth (Q0 := (1, 2, false, 0, 0, 11)) (by decide +kernel) ⟨rfl, rfl⟩ (full := s_c_15) rfl rfl ?_
  intro hM hv Q hgo
  refine hgo.1 12 [] 0 _ _ _ ?_
  refine And.intro ?_ ?_
  · intro (c1 : x1 < 0)
    show post (some (0, 0, 0, 0, 0)) M
    exact k1 c1
  · intro (c1 : 0 ≤ x1)
    refine And.intro ?_ ?_
    · intro (c2 : 10 ≤ x1)
      show post (some (0, 0, 0, 0, 0)) M
      exact k2 c1 c2
    · intro (c2 : x1 < 10)
      show post (some (0, 0, 1, 1, 1)) M
      exact k3 c1 c2
theorem cx_18_2 {b : Bool} {A : Nat → Nat} {h0 : g_H} {d : Nat} {M : xa_M} {post : Option xa_V → xa_M → Prop} {l1 u1 l2 u2 : Int} {i v : Int} (h1 : 0 ≤ i ∧ i < 14) (k1 : post none (xa_up M 2 i v)) : xa_C (xl_I b) A h0 (d + 1) 18 [(2, 2, 0, 0, 0), (0, 0, l1, u1, i), (0, 0, l2, u2, v)] M post := by
  refine xa_C_arg [(2, 2, 0, 0, 0), (0, 0, (-2147483648), 2147483647, i), (0, 0, (-2147483648), 2147483647, v)] (xa_svR (xa_svI (fun _ _ _ _ => by omega) (xa_svI (fun _ _ _ _ => by omega) xa_sv0))) ?_
  refine xa_meth (Q0 := (3, 0, false, 0, 0, 11)) (by decide +kernel) ⟨rfl, rfl⟩ (full := s_c_18) rfl rfl ?_
  intro hM hv Q hgo
  refine hgo.1 15 [] 0 _ _ _ ?_
  refine And.intro ?_ ?_
  · intro (c1 : i < 0)
    show post none M
    exact absurd h1 (by omega)
  · intro (c1 : 0 ≤ i)
    refine And.intro ?_ ?_
    · intro (c2 : 14 ≤ i)
      show post none M
      exact absurd h1 (by omega)
    · intro (c2 : i < 14)
      refine And.intro (show 0 ≤ i ∧ i < 14 by omega) ?_
      show post none (xa_up M 2 i v)
      exact k1
theorem cx_18_3 {b : Bool} {A : Nat → Nat} {h0 : g_H} {d : Nat} {M : xa_M} {post : Option xa_V → xa_M → Prop} {l1 u1 l2 u2 : Int} {i v : Int} (h1 : 0 ≤ i ∧ i < 14) (h2 : 0 ≤ v ∧ v ≤ 400) (k1 : post none (xa_up M 3 i v)) : xa_C (xl_I b) A h0 (d + 1) 18 [(2, 3, 0, 0, 0), (0, 0, l1, u1, i), (0, 0, l2, u2, v)] M post := by
  refine xa_C_arg [(2, 3, 0, 0, 0), (0, 0, (-2147483648), 2147483647, i), (0, 0, (-2147483648), 2147483647, v)] (xa_svR (xa_svI (fun _ _ _ _ => by omega) (xa_svI (fun _ _ _ _ => by omega) xa_sv0))) ?_
  refine xa_meth (Q0 := (3, 0, false, 0, 0, 11)) (by decide +kernel) ⟨rfl, rfl⟩ (full := s_c_18) rfl rfl ?_
  intro hM hv Q hgo
  refine hgo.1 15 [] 0 _ _ _ ?_
  refine And.intro ?_ ?_
  · intro (c1 : i < 0)
    show post none M
    exact absurd h1 (by omega)
  · intro (c1 : 0 ≤ i)
    refine And.intro ?_ ?_
    · intro (c2 : 14 ≤ i)
      show post none M
      exact absurd h1 (by omega)
    · intro (c2 : i < 14)
      refine And.intro (show 0 ≤ i ∧ i < 14 by omega) ?_
      refine And.intro (show 0 ≤ v ∧ v ≤ 400 by omega) ?_
      show post none (xa_up M 3 i v)
      exact k1
theorem cx_18_4 {b : Bool} {A : Nat → Nat} {h0 : g_H} {d : Nat} {M : xa_M} {post : Option xa_V → xa_M → Prop} {l1 u1 l2 u2 : Int} {i v : Int} (h1 : 0 ≤ i ∧ i < 14) (k1 : post none (xa_up M 4 i v)) : xa_C (xl_I b) A h0 (d + 1) 18 [(2, 4, 0, 0, 0), (0, 0, l1, u1, i), (0, 0, l2, u2, v)] M post := by
  refine xa_C_arg [(2, 4, 0, 0, 0), (0, 0, (-2147483648), 2147483647, i), (0, 0, (-2147483648), 2147483647, v)] (xa_svR (xa_svI (fun _ _ _ _ => by omega) (xa_svI (fun _ _ _ _ => by omega) xa_sv0))) ?_
  refine xa_meth (Q0 := (3, 0, false, 0, 0, 11)) (by decide +kernel) ⟨rfl, rfl⟩ (full := s_c_18) rfl rfl ?_
  intro hM hv Q hgo
  refine hgo.1 15 [] 0 _ _ _ ?_
  refine And.intro ?_ ?_
  · intro (c1 : i < 0)
    show post none M
    exact absurd h1 (by omega)
  · intro (c1 : 0 ≤ i)
    refine And.intro ?_ ?_
    · intro (c2 : 14 ≤ i)
      show post none M
      exact absurd h1 (by omega)
    · intro (c2 : i < 14)
      refine And.intro (show 0 ≤ i ∧ i < 14 by omega) ?_
      show post none (xa_up M 4 i v)
      exact k1
theorem cx_17_1 {b : Bool} {A : Nat → Nat} {h0 : g_H} {d : Nat} {M : xa_M} {post : Option xa_V → xa_M → Prop} {l1 u1 l2 u2 l3 u3 : Int} {x1 x2 x3 : Int} (h1 : 0 ≤ x1 ∧ x1 < 14) (h2 : 0 ≤ x3 ∧ x3 ≤ 400) (k1 : post none (xa_up (xa_up (xa_up M 2 x1 x2) 3 x1 x3) 4 x1 x2)) : xa_C (xl_I b) A h0 (d + 2) 17 [(2, 1, 0, 0, 0), (0, 0, l1, u1, x1), (0, 0, l2, u2, x2), (0, 0, l3, u3, x3)] M post := by
  refine xa_C_arg [(2, 1, 0, 0, 0), (0, 0, (-2147483648), 2147483647, x1), (0, 0, (-2147483648), 2147483647, x2), (0, 0, (-2147483648), 2147483647, x3)] (xa_svR (xa_svI (fun _ _ _ _ => by omega) (xa_svI (fun _ _ _ _ => by omega) (xa_svI (fun _ _ _ _ => by omega) (xa_sv0))))) ?_
  refine xa_meth (Q0 := (4, 0, false, 0, 0, 1)) (by decide +kernel) ⟨rfl, rfl⟩ (full := s_c_17) rfl rfl ?_
  intro hM hv Q hgo
  refine hgo.1 20 [] 0 _ _ _ ?_
  show xa_C (xl_I b) A h0 _ 18 [(2, 2, 0, 0, 0), (0, 0, (-2147483648), 2147483647, x1), (0, 0, (-2147483648), 2147483647, x2)] M _
  refine cx_18_2 (show 0 ≤ x1 ∧ x1 < 14 by omega) ?_
  show xa_C (xl_I b) A h0 _ 18 [(2, 3, 0, 0, 0), (0, 0, (-2147483648), 2147483647, x1), (0, 0, (-2147483648), 2147483647, x3)] (xa_up M 2 x1 x2) _
  refine cx_18_3 (show 0 ≤ x1 ∧ x1 < 14 by omega) (show 0 ≤ x3 ∧ x3 ≤ 400 by omega) ?_
  show xa_C (xl_I b) A h0 _ 18 [(2, 4, 0, 0, 0), (0, 0, (-2147483648), 2147483647, x1), (0, 0, (-2147483648), 2147483647, x2)] (xa_up (xa_up M 2 x1 x2) 3 x1 x3) _
  refine cx_18_4 (show 0 ≤ x1 ∧ x1 < 14 by omega) ?_
  show post none (xa_up (xa_up (xa_up M 2 x1 x2) 3 x1 x3) 4 x1 x2)
  exact k1
theorem cx_18_5 {b : Bool} {A : Nat → Nat} {h0 : g_H} {d : Nat} {M : xa_M} {post : Option xa_V → xa_M → Prop} {l1 u1 l2 u2 : Int} {i v : Int} (h1 : 0 ≤ i ∧ i < 14) (k1 : post none (xa_up M 5 i v)) : xa_C (xl_I b) A h0 (d + 1) 18 [(2, 5, 0, 0, 0), (0, 0, l1, u1, i), (0, 0, l2, u2, v)] M post := by
  refine xa_C_arg [(2, 5, 0, 0, 0), (0, 0, (-2147483648), 2147483647, i), (0, 0, (-2147483648), 2147483647, v)] (xa_svR (xa_svI (fun _ _ _ _ => by omega) (xa_svI (fun _ _ _ _ => by omega) xa_sv0))) ?_
  refine xa_meth (Q0 := (3, 0, false, 0, 0, 11)) (by decide +kernel) ⟨rfl, rfl⟩ (full := s_c_18) rfl rfl ?_
  intro hM hv Q hgo
  refine hgo.1 15 [] 0 _ _ _ ?_
  refine And.intro ?_ ?_
  · intro (c1 : i < 0)
    show post none M
    exact absurd h1 (by omega)
  · intro (c1 : 0 ≤ i)
    refine And.intro ?_ ?_
    · intro (c2 : 14 ≤ i)
      show post none M
      exact absurd h1 (by omega)
    · intro (c2 : i < 14)
      refine And.intro (show 0 ≤ i ∧ i < 14 by omega) ?_
      show post none (xa_up M 5 i v)
      exact k1
theorem cx_18_6 {b : Bool} {A : Nat → Nat} {h0 : g_H} {d : Nat} {M : xa_M} {post : Option xa_V → xa_M → Prop} {l1 u1 l2 u2 : Int} {i v : Int} (h1 : 0 ≤ i ∧ i < 14) (k1 : post none (xa_up M 6 i v)) : xa_C (xl_I b) A h0 (d + 1) 18 [(2, 6, 0, 0, 0), (0, 0, l1, u1, i), (0, 0, l2, u2, v)] M post := by
  refine xa_C_arg [(2, 6, 0, 0, 0), (0, 0, (-2147483648), 2147483647, i), (0, 0, (-2147483648), 2147483647, v)] (xa_svR (xa_svI (fun _ _ _ _ => by omega) (xa_svI (fun _ _ _ _ => by omega) xa_sv0))) ?_
  refine xa_meth (Q0 := (3, 0, false, 0, 0, 11)) (by decide +kernel) ⟨rfl, rfl⟩ (full := s_c_18) rfl rfl ?_
  intro hM hv Q hgo
  refine hgo.1 15 [] 0 _ _ _ ?_
  refine And.intro ?_ ?_
  · intro (c1 : i < 0)
    show post none M
    exact absurd h1 (by omega)
  · intro (c1 : 0 ≤ i)
    refine And.intro ?_ ?_
    · intro (c2 : 14 ≤ i)
      show post none M
      exact absurd h1 (by omega)
    · intro (c2 : i < 14)
      refine And.intro (show 0 ≤ i ∧ i < 14 by omega) ?_
      show post none (xa_up M 6 i v)
      exact k1
theorem cx_16_1 {b : Bool} {A : Nat → Nat} {h0 : g_H} {d : Nat} {M : xa_M} {post : Option xa_V → xa_M → Prop} {l1 u1 l2 u2 l3 u3 l4 u4 : Int} {x1 x2 x3 x4 : Int} (h1 : 0 ≤ (M 1 9) ∧ (M 1 9) ≤ 14) (h2 : 10 ≤ x2 ∧ x2 ≤ 400) (k1 : ((M 1 9) < 14) → post (some (0, 0, (-2147483648), 2147483647, M 1 9)) (xa_up (xa_up (xa_up (xa_up (xa_up (xa_up M 2 (M 1 9) x1) 3 (M 1 9) x2) 4 (M 1 9) x1) 5 (M 1 9) x3) 6 (M 1 9) x4) 1 9 (xa_w32 ((M 1 9) + 1)))) (k2 : (14 ≤ (M 1 9)) → post (some (0, 0, (-1), (-1), (-1))) M) : xa_C (xl_I b) A h0 (d + 3) 16 [(2, 1, 0, 0, 0), (0, 0, l1, u1, x1), (0, 0, l2, u2, x2), (0, 0, l3, u3, x3), (0, 0, l4, u4, x4)] M post := by
  refine xa_C_arg [(2, 1, 0, 0, 0), (0, 0, (-2147483648), 2147483647, x1), (0, 0, (-2147483648), 2147483647, x2), (0, 0, (-2147483648), 2147483647, x3), (0, 0, (-2147483648), 2147483647, x4)] (xa_svR (xa_svI (fun _ _ _ _ => by omega) (xa_svI (fun _ _ _ _ => by omega) (xa_svI (fun _ _ _ _ => by omega) (xa_svI (fun _ _ _ _ => by omega) (xa_sv0)))))) ?_
  refine xa_meth (Q0 := (6, 1, false, 0, 0, 1)) (by decide +kernel) ⟨rfl, rfl⟩ (full := s_c_16) rfl rfl ?_
  intro hM hv Q hgo
  refine hgo.1 34 [] 0 _ _ _ ?_
  refine And.intro ?_ ?_
  · intro (c1 : (M 1 9) < 14)
    show xa_C (xl_I b) A h0 _ 17 [(2, 1, 0, 0, 0), (0, 0, (-2147483648), 2147483647, M 1 9), (0, 0, (-2147483648), 2147483647, x1), (0, 0, (-2147483648), 2147483647, x2)] M _
    refine cx_17_1 (show 0 ≤ (M 1 9) ∧ (M 1 9) < 14 by omega) (show 0 ≤ x2 ∧ x2 ≤ 400 by omega) ?_
    show xa_C (xl_I b) A h0 _ 18 [(2, 5, 0, 0, 0), (0, 0, (-2147483648), 2147483647, M 1 9), (0, 0, (-2147483648), 2147483647, x3)] (xa_up (xa_up (xa_up M 2 (M 1 9) x1) 3 (M 1 9) x2) 4 (M 1 9) x1) _
    refine cx_18_5 (show 0 ≤ (M 1 9) ∧ (M 1 9) < 14 by omega) ?_
    show xa_C (xl_I b) A h0 _ 18 [(2, 6, 0, 0, 0), (0, 0, (-2147483648), 2147483647, M 1 9), (0, 0, (-2147483648), 2147483647, x4)] (xa_up (xa_up (xa_up (xa_up M 2 (M 1 9) x1) 3 (M 1 9) x2) 4 (M 1 9) x1) 5 (M 1 9) x3) _
    refine cx_18_6 (show 0 ≤ (M 1 9) ∧ (M 1 9) < 14 by omega) ?_
    show post (some (0, 0, (-2147483648), 2147483647, M 1 9)) (xa_up (xa_up (xa_up (xa_up (xa_up (xa_up M 2 (M 1 9) x1) 3 (M 1 9) x2) 4 (M 1 9) x1) 5 (M 1 9) x3) 6 (M 1 9) x4) 1 9 (xa_w32 ((M 1 9) + 1)))
    exact k1 c1
  · intro (c1 : 14 ≤ (M 1 9))
    show post (some (0, 0, (-1), (-1), (-1))) M
    exact k2 c1
theorem cx_12_0 {b : Bool} {A : Nat → Nat} {h0 : g_H} {d : Nat} {M : xa_M} {post : Option xa_V → xa_M → Prop} {l1 u1 l2 u2 l3 u3 l4 u4 : Int} {x1 x2 x3 x4 : Int} (h1 : 0 ≤ (M 1 9) ∧ (M 1 9) ≤ 14) (k1 : (x1 < 10) → post (some (0, 0, (-1), (-1), (-1))) M) (k2 : (10 ≤ x1) → (400 < x2) → post (some (0, 0, (-1), (-1), (-1))) M) (k3 : (10 ≤ x1) → (x2 ≤ 400) → (x2 < x1) → post (some (0, 0, (-1), (-1), (-1))) M) (k4 : (10 ≤ x1) → (x2 ≤ 400) → (x1 ≤ x2) → (x3 < 0) → post (some (0, 0, (-1), (-1), (-1))) M) (k5 : (10 ≤ x1) → (x2 ≤ 400) → (x1 ≤ x2) → (0 ≤ x3) → (10 ≤ x3) → post (some (0, 0, (-1), (-1), (-1))) M) (k6 : (10 ≤ x1) → (x2 ≤ 400) → (x1 ≤ x2) → (0 ≤ x3) → (x3 < 10) → (x4 < 0) → post (some (0, 0, (-1), (-1), (-1))) M) (k7 : (10 ≤ x1) → (x2 ≤ 400) → (x1 ≤ x2) → (0 ≤ x3) → (x3 < 10) → (0 ≤ x4) → (10 ≤ x4) → post (some (0, 0, (-1), (-1), (-1))) M) (k8 : (10 ≤ x1) → (x2 ≤ 400) → (x1 ≤ x2) → (0 ≤ x3) → (x3 < 10) → (0 ≤ x4) → (x4 < 10) → ((M 1 9) < 14) → post (some (0, 0, (-2147483648), 2147483647, M 1 9)) (xa_up (xa_up (xa_up (xa_up (xa_up (xa_up M 2 (M 1 9) x1) 3 (M 1 9) x2) 4 (M 1 9) x1) 5 (M 1 9) x3) 6 (M 1 9) x4) 1 9 (xa_w32 ((M 1 9) + 1)))) (k9 : (10 ≤ x1) → (x2 ≤ 400) → (x1 ≤ x2) → (0 ≤ x3) → (x3 < 10) → (0 ≤ x4) → (x4 < 10) → (14 ≤ (M 1 9)) → post (some (0, 0, (-1), (-1), (-1))) M) : xa_C (xl_I b) A h0 (d + 4) 12 [(2, 0, 0, 0, 0), (0, 0, l1, u1, x1), (0, 0, l2, u2, x2), (0, 0, l3, u3, x3), (0, 0, l4, u4, x4)] M post := by
  refine xa_C_arg [(2, 0, 0, 0, 0), (0, 0, (-2147483648), 2147483647, x1), (0, 0, (-2147483648), 2147483647, x2), (0, 0, (-2147483648), 2147483647, x3), (0, 0, (-2147483648), 2147483647, x4)] (xa_svR (xa_svI (fun _ _ _ _ => by omega) (xa_svI (fun _ _ _ _ => by omega) (xa_svI (fun _ _ _ _ => by omega) (xa_svI (fun _ _ _ _ => by omega) (xa_sv0)))))) ?_
  refine xa_meth (Q0 := (5, 1, false, 0, 0, 11)) (by decide +kernel) ⟨rfl, rfl⟩ (full := s_c_12) rfl rfl ?_
  intro hM hv Q hgo
  refine hgo.1 22 [] 0 _ _ _ ?_
  show xa_C (xl_I b) A h0 _ 13 [(0, 0, (-2147483648), 2147483647, x1), (0, 0, (-2147483648), 2147483647, x2)] M _
  refine cx_13 ?_ ?_ ?_ ?_
  · intro (i1 : x1 < 10)
    show post (some (0, 0, (-1), (-1), (-1))) M
    exact k1 i1
  · intro (i2 : 10 ≤ x1) (i3 : 400 < x2)
    show post (some (0, 0, (-1), (-1), (-1))) M
    exact k2 i2 i3
  · intro (i4 : 10 ≤ x1) (i5 : x2 ≤ 400) (i6 : x2 < x1)
    show post (some (0, 0, (-1), (-1), (-1))) M
    exact k3 i4 i5 i6
  · intro (i7 : 10 ≤ x1) (i8 : x2 ≤ 400) (i9 : x1 ≤ x2)
    show xa_C (xl_I b) A h0 _ 14 [(0, 0, (-2147483648), 2147483647, x3)] M _
    refine cx_14 ?_ ?_ ?_
    · intro (i10 : x3 < 0)
      show post (some (0, 0, (-1), (-1), (-1))) M
      exact k4 i7 i8 i9 i10
    · intro (i11 : 0 ≤ x3) (i12 : 10 ≤ x3)
      show post (some (0, 0, (-1), (-1), (-1))) M
      exact k5 i7 i8 i9 i11 i12
    · intro (i13 : 0 ≤ x3) (i14 : x3 < 10)
      show xa_C (xl_I b) A h0 _ 15 [(0, 0, (-2147483648), 2147483647, x4)] M _
      refine cx_15 ?_ ?_ ?_
      · intro (i15 : x4 < 0)
        show post (some (0, 0, (-1), (-1), (-1))) M
        exact k6 i7 i8 i9 i13 i14 i15
      · intro (i16 : 0 ≤ x4) (i17 : 10 ≤ x4)
        show post (some (0, 0, (-1), (-1), (-1))) M
        exact k7 i7 i8 i9 i13 i14 i16 i17
      · intro (i18 : 0 ≤ x4) (i19 : x4 < 10)
        show xa_C (xl_I b) A h0 _ 16 [(2, 1, 0, 0, 0), (0, 0, (-2147483648), 2147483647, x1), (0, 0, (-2147483648), 2147483647, x2), (0, 0, (-2147483648), 2147483647, x3), (0, 0, (-2147483648), 2147483647, x4)] M _
        refine cx_16_1 (show 0 ≤ (M 1 9) ∧ (M 1 9) ≤ 14 by omega) (show 10 ≤ x2 ∧ x2 ≤ 400 by omega) ?_ ?_
        · intro (i20 : (M 1 9) < 14)
          show post (some (0, 0, (-2147483648), 2147483647, M 1 9)) (xa_up (xa_up (xa_up (xa_up (xa_up (xa_up M 2 (M 1 9) x1) 3 (M 1 9) x2) 4 (M 1 9) x1) 5 (M 1 9) x3) 6 (M 1 9) x4) 1 9 (xa_w32 ((M 1 9) + 1)))
          exact k8 i7 i8 i9 i13 i14 i18 i19 i20
        · intro (i21 : 14 ≤ (M 1 9))
          show post (some (0, 0, (-1), (-1), (-1))) M
          exact k9 i7 i8 i9 i13 i14 i18 i19 i21
theorem cw_12 {b : Bool} {A : Nat → Nat} {h0 : g_H} {d : Nat} {M : xa_M} {l1 u1 l2 u2 l3 u3 l4 u4 : Int} {x1 x2 x3 x4 : Int} (h1 : 0 ≤ (M 1 9) ∧ (M 1 9) ≤ 14) : xa_C (xl_I b) A h0 (d + 4) 12 [(2, 0, 0, 0, 0), (0, 0, l1, u1, x1), (0, 0, l2, u2, x2), (0, 0, l3, u3, x3), (0, 0, l4, u4, x4)] M (iv_P (lw_ok x1 x2 x3 x4 (M 1 9)) (M 1 9) (xa_up (xa_up (xa_up (xa_up (xa_up (xa_up M 2 (M 1 9) x1) 3 (M 1 9) x2) 4 (M 1 9) x1) 5 (M 1 9) x3) 6 (M 1 9) x4) 1 9 (xa_w32 ((M 1 9) + 1))) (-1) M) := by
  refine cx_12_0 h1 ?_ ?_ ?_ ?_ ?_ ?_ ?_ ?_ ?_
  all_goals intros
  all_goals first
    | exact Or.inr ⟨by unfold lw_ok; omega, ⟨_, _, rfl⟩, rfl⟩
    | exact Or.inl ⟨by unfold lw_ok; omega, ⟨_, _, rfl⟩, rfl⟩
theorem ms_wheelF {A : Nat → Nat} {h0 : g_H} {d : Nat} {M : xa_M} {post : Option xa_V → xa_M → Prop} {l1 u1 l2 u2 l3 u3 l4 u4 : Int} {a b c e : Int} (hI : xm_Inv M) (k : ∀ (o : Option xa_V) (M1 : xa_M), iv_P (lw_ok a b c e (M 60 0)) (((M 60 0) + 1) - 1) (xa_up (xa_up (xa_up (xa_up (xa_up (xa_up (xa_up M 60 21 0) 61 (M 60 0) a) 62 (M 60 0) b) 63 (M 60 0) a) 64 (M 60 0) c) 65 (M 60 0) e) 60 0 ((M 60 0) + 1)) (-1) (xa_up M 60 21 0) o M1 → xm_Inv M1 → post o M1) : xa_C xm_I A h0 (d + 3) 213 [(2, 60, 0, 0, 0), (0, 0, l1, u1, a), (0, 0, l2, u2, b), (0, 0, l3, u3, c), (0, 0, l4, u4, e)] M post := by
  refine xa_C_arg [(2, 60, 0, 0, 0), (0, 0, (-2147483648), 2147483647, a), (0, 0, (-2147483648), 2147483647, b), (0, 0, (-2147483648), 2147483647, c), (0, 0, (-2147483648), 2147483647, e)] (xa_svR (xa_svI (fun _ _ _ _ => by omega) (xa_svI (fun _ _ _ _ => by omega) (xa_svI (fun _ _ _ _ => by omega) (xa_svI (fun _ _ _ _ => by omega) xa_sv0))))) ?_
  refine xa_meth (Q0 := (5, 1, false, 0, 0, 12)) (by decide +kernel) ⟨rfl, rfl⟩ (full := s_c_213) rfl rfl ?_
  intro hM hv Q hgo
  have b0 := xm_f0 hM
  have b6 := xm_f6 hM
  refine hgo.1 70 [] 0 _ _ _ ?_
  show xa_C xm_I A h0 _ 214 [(0, 0, (-2147483648), 2147483647, a), (0, 0, 10, 10, 10), (0, 0, 400, 400, 400)] (xa_up M 60 21 0) _
  refine ct_in ?_ ?_
  · intro (i1 : 10 ≤ a ∧ a ≤ 400)
    show xa_C xm_I A h0 _ 214 [(0, 0, (-2147483648), 2147483647, b), (0, 0, (-2147483648), 2147483647, a), (0, 0, 400, 400, 400)] (xa_up M 60 21 0) _
    refine ct_in ?_ ?_
    · intro (i2 : a ≤ b ∧ b ≤ 400)
      show xa_C xm_I A h0 _ 215 [(0, 0, (-2147483648), 2147483647, c)] (xa_up M 60 21 0) _
      refine ct_isAxle ?_ ?_
      · intro (i3 : 0 ≤ c ∧ c ≤ 9)
        show xa_C xm_I A h0 _ 214 [(0, 0, (-2147483648), 2147483647, e), (0, 0, 0, 0, 0), (0, 0, 9, 9, 9)] (xa_up M 60 21 0) _
        refine ct_in ?_ ?_
        · intro (i4 : 0 ≤ e ∧ e ≤ 9)
          refine And.intro ?_ ?_
          · intro (c5 : ¬ (M 60 0) = 14)
            refine And.intro (show 0 ≤ (M 60 0) ∧ (M 60 0) < 14 by omega) ?_
            refine And.intro (show 0 ≤ a ∧ a ≤ 400 by omega) ?_
            refine And.intro (show 0 ≤ (M 60 0) ∧ (M 60 0) < 14 by omega) ?_
            refine And.intro (show 0 ≤ b ∧ b ≤ 400 by omega) ?_
            refine And.intro (show 0 ≤ (M 60 0) ∧ (M 60 0) < 14 by omega) ?_
            refine And.intro (show 0 ≤ a ∧ a ≤ 400 by omega) ?_
            refine And.intro (show 0 ≤ (M 60 0) ∧ (M 60 0) < 14 by omega) ?_
            refine And.intro (show 0 ≤ c ∧ c ≤ 9 by omega) ?_
            refine And.intro (show 0 ≤ (M 60 0) ∧ (M 60 0) < 14 by omega) ?_
            refine And.intro (show 0 ≤ e ∧ e ≤ 9 by omega) ?_
            refine And.intro (show 0 ≤ ((M 60 0) + 1) ∧ ((M 60 0) + 1) ≤ 14 by omega) ?_
            show post (some (0, 0, (-1), 13, ((M 60 0) + 1) - 1)) (xa_up (xa_up (xa_up (xa_up (xa_up (xa_up (xa_up M 60 21 0) 61 (M 60 0) a) 62 (M 60 0) b) 63 (M 60 0) a) 64 (M 60 0) c) 65 (M 60 0) e) 60 0 ((M 60 0) + 1))
            refine k _ _ (by first | exact Or.inr ⟨by unfold lw_ok; omega, ⟨_, _, rfl⟩, rfl⟩ | exact Or.inl ⟨by unfold lw_ok; omega, ⟨_, _, rfl⟩, rfl⟩) (xm_Inv_b (M := M) (fun j => by simp [xa_up]) (fun j => by simp [xa_up]) hI (fun w w0 w1 => ?_) (fun m m0 m1 => ?_) (fun p p0 p1 => ?_) ?_)
            · by_cases e : w = M 60 0
              · rw [e]
                simp [xa_up]
                omega
              · have h := hI.1 w w0 (by simp [xa_up] at w1; omega)
                simp [xa_up, e]
                exact h
            · have h := hI.2.1 m m0 (by simp [xa_up] at m1; omega)
              simp [xa_up]
              omega
            · have h := hI.2.2.1 p p0 (by simp [xa_up] at p1; omega)
              simp [xa_up]
              exact h
            · simp [xa_up]
              exact hI.2.2.2.1
          · intro (c5 : (M 60 0) = 14)
            show post (some (0, 0, (-1), (-1), (-1))) (xa_up M 60 21 0)
            exact k _ _ (by first | exact Or.inr ⟨by unfold lw_ok; omega, ⟨_, _, rfl⟩, rfl⟩ | exact Or.inl ⟨by unfold lw_ok; omega, ⟨_, _, rfl⟩, rfl⟩) (xm_Inv_cor (xm_cor_f (by omega) xm_cor_r) hI)
        · intro (i4 : ¬ (0 ≤ e ∧ e ≤ 9))
          show post (some (0, 0, (-1), (-1), (-1))) (xa_up M 60 21 0)
          exact k _ _ (by first | exact Or.inr ⟨by unfold lw_ok; omega, ⟨_, _, rfl⟩, rfl⟩ | exact Or.inl ⟨by unfold lw_ok; omega, ⟨_, _, rfl⟩, rfl⟩) (xm_Inv_cor (xm_cor_f (by omega) xm_cor_r) hI)
      · intro (i3 : ¬ (0 ≤ c ∧ c ≤ 9))
        show post (some (0, 0, (-1), (-1), (-1))) (xa_up M 60 21 0)
        exact k _ _ (by first | exact Or.inr ⟨by unfold lw_ok; omega, ⟨_, _, rfl⟩, rfl⟩ | exact Or.inl ⟨by unfold lw_ok; omega, ⟨_, _, rfl⟩, rfl⟩) (xm_Inv_cor (xm_cor_f (by omega) xm_cor_r) hI)
    · intro (i2 : ¬ (a ≤ b ∧ b ≤ 400))
      show post (some (0, 0, (-1), (-1), (-1))) (xa_up M 60 21 0)
      exact k _ _ (by first | exact Or.inr ⟨by unfold lw_ok; omega, ⟨_, _, rfl⟩, rfl⟩ | exact Or.inl ⟨by unfold lw_ok; omega, ⟨_, _, rfl⟩, rfl⟩) (xm_Inv_cor (xm_cor_f (by omega) xm_cor_r) hI)
  · intro (i1 : ¬ (10 ≤ a ∧ a ≤ 400))
    show post (some (0, 0, (-1), (-1), (-1))) (xa_up M 60 21 0)
    exact k _ _ (by first | exact Or.inr ⟨by unfold lw_ok; omega, ⟨_, _, rfl⟩, rfl⟩ | exact Or.inl ⟨by unfold lw_ok; omega, ⟨_, _, rfl⟩, rfl⟩) (xm_Inv_cor (xm_cor_f (by omega) xm_cor_r) hI)
theorem iv_p12 (A : Nat → Nat) (cmp : Bool) : iv_pair (iv_J A) A 12 213 [0, 0, 0, 0] cmp false := iv_armP (fun W b h as M hJ hM hInv hs hR => by
  obtain ⟨m1, ys, rfl, -, hs⟩ := iv_spc hs
  obtain ⟨m2, ys, rfl, -, hs⟩ := iv_spc hs
  obtain ⟨m3, ys, rfl, -, hs⟩ := iv_spc hs
  obtain ⟨m4, ys, rfl, -, hs⟩ := iv_spc hs
  obtain rfl := iv_sp0 hs
  have b0 := xm_f0 (xa_H_Mok hM)
  have b6 := xm_f6 (xa_H_Mok hM)
  have r1 : iv_num h 1 9 = M 60 0 := hR.1.1
  have r2 : iv_num h 1 10 = M 60 6 := hR.1.2.1
  have r3 : ∀ i, 0 ≤ i → i < 14 → iv_num h 2 i = M 61 i ∧ iv_num h 3 i = M 62 i ∧ iv_num h 5 i = M 64 i ∧ iv_num h 6 i = M 65 i ∧ iv_num h 4 i = M 63 i := hR.1.2.2.1
  have r4 : ∀ i, 0 ≤ i → i < 16 → iv_num h 7 i = M 66 i ∧ iv_num h 8 i = M 67 i := hR.1.2.2.2
  have hS := hR.2
  have hc := cw_12 (b := b) (A := A) (h0 := h) (d := 56) (M := iv_num h) (l1 := -2147483648) (u1 := 2147483647) (l2 := -2147483648) (u2 := 2147483647) (l3 := -2147483648) (u3 := 2147483647) (l4 := -2147483648) (u4 := 2147483647) (x1 := m1.toInt) (x2 := m2.toInt) (x3 := m3.toInt) (x4 := m4.toInt) (by omega)
  rw [r1] at hc
  have hm := fun (h1 : g_H) => ms_wheelF (A := A) (h0 := h1) (d := 57) (M := M) (l1 := -2147483648) (u1 := 2147483647) (l2 := -2147483648) (u2 := 2147483647) (l3 := -2147483648) (u3 := 2147483647) (l4 := -2147483648) (u4 := 2147483647) (a := m1.toInt) (b := m2.toInt) (c := m3.toInt) (e := m4.toInt) (post := fun o M2 => iv_P (lw_ok m1.toInt m2.toInt m3.toInt m4.toInt (M 60 0)) (M 60 0 + 1 - 1) _ (-1) _ o M2 ∧ xm_Inv M2) hInv (fun o M1 hP hI => ⟨hP, hI⟩)
  rw [show M 60 0 + 1 - 1 = M 60 0 by omega] at hm
  refine ⟨[(2, 0, 0, 0, 0), (0, 0, -2147483648, 2147483647, m1.toInt), (0, 0, -2147483648, 2147483647, m2.toInt), (0, 0, -2147483648, 2147483647, m3.toInt), (0, 0, -2147483648, 2147483647, m4.toInt)], [(2, 60, 0, 0, 0), (0, 0, -2147483648, 2147483647, m1.toInt), (0, 0, -2147483648, 2147483647, m2.toInt), (0, 0, -2147483648, 2147483647, m3.toInt), (0, 0, -2147483648, 2147483647, m4.toInt)], _, _, _, _, _, _, _, ⟨rfl, iv_i m1, iv_i m2, iv_i m3, iv_i m4, trivial⟩, ⟨rfl, iv_i m1, iv_i m2, iv_i m3, iv_i m4, trivial⟩, hc, hm, fun hok => ⟨?_, fun z => ?_, fun z => ?_⟩, fun hok => ⟨?_, fun z => ?_, fun z => ?_⟩⟩
  · unfold lw_ok at hok
    have hn : M 60 0 < 14 := hok.2.2.2.2.2.2.2
    refine ⟨⟨?_, ?_, fun i i0 i1 => ?_, fun i i0 i1 => ?_⟩, lm_S_k (fun q j hC => by unfold lm_CS at hC; rcases hC with ⟨rfl, rfl⟩ | ⟨rfl, rfl⟩ | ⟨rfl, rfl⟩ | ⟨rfl, j0, j1⟩ | ⟨rfl | rfl | rfl | rfl | rfl | rfl, j0, j1⟩ | ⟨rfl, rfl | rfl⟩ | ⟨rfl, j0, j1⟩ | ⟨rfl | rfl | rfl, j0, j1⟩ <;> simp [xj, xa_up]) hS⟩
    · simp [xj, xa_up]
      exact xa_w32_id (by omega) (by omega)
    · simp [xj, xa_up]
      exact r2
    · obtain ⟨g1, g2, g3, g4⟩ := r3 i i0 i1
      by_cases e : i = M 60 0
      · simp [xj, xa_up, e]
      · simp [xj, xa_up, e]
        exact ⟨g1, g2, g3, g4⟩
    · obtain ⟨g1, g2⟩ := r4 i i0 i1
      simp [xj, xa_up]
      exact ⟨g1, g2⟩
  · simp [xa_up]
  · simp [xa_up]
  · refine ⟨⟨?_, ?_, fun i i0 i1 => ?_, fun i i0 i1 => ?_⟩, lm_S_k (fun q j hC => by unfold lm_CS at hC; rcases hC with ⟨rfl, rfl⟩ | ⟨rfl, rfl⟩ | ⟨rfl, rfl⟩ | ⟨rfl, j0, j1⟩ | ⟨rfl | rfl | rfl | rfl | rfl | rfl, j0, j1⟩ | ⟨rfl, rfl | rfl⟩ | ⟨rfl, j0, j1⟩ | ⟨rfl | rfl | rfl, j0, j1⟩ <;> simp [xj, xa_up]) hS⟩
    · simp [xj, xa_up]
      exact r1
    · simp [xj, xa_up]
      exact r2
    · simp [xj, xa_up]
      exact r3 i i0 i1
    · simp [xj, xa_up]
      exact r4 i i0 i1
  · simp [xa_up]
  · simp [xa_up])
def lp_ok (n : Int) : Prop := ¬ n = 0
theorem cx_44_1 {b : Bool} {A : Nat → Nat} {h0 : g_H} {d : Nat} {M : xa_M} {post : Option xa_V → xa_M → Prop} (h1 : 0 ≤ (M 1 10) ∧ (M 1 10) ≤ 16) (k1 : (¬ (M 1 10) = 0) → post (some (0, 0, (-2147483648), 2147483647, xa_w32 ((M 1 10) - 1))) (xa_up M 1 10 (xa_w32 ((M 1 10) - 1)))) (k2 : ((M 1 10) = 0) → post (some (0, 0, (-1), (-1), (-1))) M) : xa_C (xl_I b) A h0 (d + 1) 44 [(2, 1, 0, 0, 0)] M post := by
  refine xa_C_arg [(2, 1, 0, 0, 0)] (xa_svR (xa_sv0)) ?_
  refine xa_meth (Q0 := (1, 1, false, 0, 0, 1)) (by decide +kernel) ⟨rfl, rfl⟩ (full := s_c_44) rfl rfl ?_
  intro hM hv Q hgo
  refine hgo.1 16 [] 0 _ _ _ ?_
  refine And.intro ?_ ?_
  · intro (c1 : ¬ (M 1 10) = 0)
    show post (some (0, 0, (-2147483648), 2147483647, xa_w32 ((M 1 10) - 1))) (xa_up M 1 10 (xa_w32 ((M 1 10) - 1)))
    exact k1 c1
  · intro (c1 : (M 1 10) = 0)
    show post (some (0, 0, (-1), (-1), (-1))) M
    exact k2 c1
theorem cx_43_0 {b : Bool} {A : Nat → Nat} {h0 : g_H} {d : Nat} {M : xa_M} {post : Option xa_V → xa_M → Prop} (h1 : 0 ≤ (M 1 10) ∧ (M 1 10) ≤ 16) (k1 : (¬ (M 1 10) = 0) → post (some (0, 0, (-2147483648), 2147483647, xa_w32 ((M 1 10) - 1))) (xa_up M 1 10 (xa_w32 ((M 1 10) - 1)))) (k2 : ((M 1 10) = 0) → post (some (0, 0, (-1), (-1), (-1))) M) : xa_C (xl_I b) A h0 (d + 2) 43 [(2, 0, 0, 0, 0)] M post := by
  refine xa_C_arg [(2, 0, 0, 0, 0)] (xa_svR (xa_sv0)) ?_
  refine xa_meth (Q0 := (1, 1, false, 0, 0, 11)) (by decide +kernel) ⟨rfl, rfl⟩ (full := s_c_43) rfl rfl ?_
  intro hM hv Q hgo
  refine hgo.1 8 [] 0 _ _ _ ?_
  show xa_C (xl_I b) A h0 _ 44 [(2, 1, 0, 0, 0)] M _
  refine cx_44_1 (show 0 ≤ (M 1 10) ∧ (M 1 10) ≤ 16 by omega) ?_ ?_
  · intro (i1 : ¬ (M 1 10) = 0)
    show post (some (0, 0, (-2147483648), 2147483647, xa_w32 ((M 1 10) - 1))) (xa_up M 1 10 (xa_w32 ((M 1 10) - 1)))
    exact k1 i1
  · intro (i2 : (M 1 10) = 0)
    show post (some (0, 0, (-1), (-1), (-1))) M
    exact k2 i2
theorem cw_43 {b : Bool} {A : Nat → Nat} {h0 : g_H} {d : Nat} {M : xa_M} (h1 : 0 ≤ (M 1 10) ∧ (M 1 10) ≤ 16) : xa_C (xl_I b) A h0 (d + 2) 43 [(2, 0, 0, 0, 0)] M (iv_P (lp_ok (M 1 10)) (xa_w32 ((M 1 10) - 1)) (xa_up M 1 10 (xa_w32 ((M 1 10) - 1))) (-1) M) := by
  refine cx_43_0 h1 ?_ ?_
  all_goals intros
  all_goals first
    | exact Or.inr ⟨by unfold lp_ok; omega, ⟨_, _, rfl⟩, rfl⟩
    | exact Or.inl ⟨by unfold lp_ok; omega, ⟨_, _, rfl⟩, rfl⟩
theorem ms_partF {A : Nat → Nat} {h0 : g_H} {d : Nat} {M : xa_M} {post : Option xa_V → xa_M → Prop} (hI : xm_Inv M) (k : ∀ (o : Option xa_V) (M1 : xa_M), iv_P (lp_ok (M 60 6)) ((M 60 6) - 1) (xa_up (xa_up M 60 21 0) 60 6 ((M 60 6) - 1)) (-1) (xa_up M 60 21 0) o M1 → xm_Inv M1 → post o M1) : xa_C xm_I A h0 (d + 1) 222 [(2, 60, 0, 0, 0)] M post := by
  refine xa_meth (Q0 := (1, 1, false, 0, 0, 12)) (by decide +kernel) ⟨rfl, rfl⟩ (full := s_c_222) rfl rfl ?_
  intro hM hv Q hgo
  have b0 := xm_f0 hM
  have b6 := xm_f6 hM
  refine hgo.1 19 [] 0 _ _ _ ?_
  refine And.intro ?_ ?_
  · intro (c1 : ¬ (M 60 6) = 0)
    refine And.intro (show 0 ≤ ((M 60 6) - 1) ∧ ((M 60 6) - 1) ≤ 16 by omega) ?_
    show post (some (0, 0, 0, 16, (M 60 6) - 1)) (xa_up (xa_up M 60 21 0) 60 6 ((M 60 6) - 1))
    refine k _ _ (by first | exact Or.inr ⟨by unfold lp_ok; omega, ⟨_, _, rfl⟩, rfl⟩ | exact Or.inl ⟨by unfold lp_ok; omega, ⟨_, _, rfl⟩, rfl⟩) (xm_Inv_b (M := M) (fun j => by simp [xa_up]) (fun j => by simp [xa_up]) hI (fun w w0 w1 => ?_) (fun m m0 m1 => ?_) (fun p p0 p1 => ?_) ?_)
    · have h := hI.1 w w0 (by simp [xa_up] at w1; omega)
      simp [xa_up]
      exact h
    · have h := hI.2.1 m m0 (by simp [xa_up] at m1; omega)
      simp [xa_up]
      exact h
    · have h := hI.2.2.1 p p0 (by simp [xa_up] at p1; omega)
      simp [xa_up]
      exact h
    · simp [xa_up]
      exact hI.2.2.2.1
  · intro (c1 : (M 60 6) = 0)
    show post (some (0, 0, (-1), (-1), (-1))) (xa_up M 60 21 0)
    exact k _ _ (by first | exact Or.inr ⟨by unfold lp_ok; omega, ⟨_, _, rfl⟩, rfl⟩ | exact Or.inl ⟨by unfold lp_ok; omega, ⟨_, _, rfl⟩, rfl⟩) (xm_Inv_cor (xm_cor_f (by omega) xm_cor_r) hI)
theorem iv_p43 (A : Nat → Nat) (cmp : Bool) : iv_pair (iv_J A) A 43 222 [] cmp false := iv_armP (fun W b h as M hJ hM hInv hs hR => by
  obtain rfl := iv_sp0 hs
  have b0 := xm_f0 (xa_H_Mok hM)
  have b6 := xm_f6 (xa_H_Mok hM)
  have r1 : iv_num h 1 9 = M 60 0 := hR.1.1
  have r2 : iv_num h 1 10 = M 60 6 := hR.1.2.1
  have r3 : ∀ i, 0 ≤ i → i < 14 → iv_num h 2 i = M 61 i ∧ iv_num h 3 i = M 62 i ∧ iv_num h 5 i = M 64 i ∧ iv_num h 6 i = M 65 i ∧ iv_num h 4 i = M 63 i := hR.1.2.2.1
  have r4 : ∀ i, 0 ≤ i → i < 16 → iv_num h 7 i = M 66 i ∧ iv_num h 8 i = M 67 i := hR.1.2.2.2
  have hS := hR.2
  have hc := cw_43 (b := b) (A := A) (h0 := h) (d := 58) (M := iv_num h) (by omega)
  rw [r2, xa_w32_id (n := M 60 6 - 1) (by omega) (by omega)] at hc
  have hm := fun (h1 : g_H) => ms_partF (A := A) (h0 := h1) (d := 59) (M := M) (post := fun o M2 => iv_P (lp_ok (M 60 6)) (M 60 6 - 1) _ (-1) _ o M2 ∧ xm_Inv M2) hInv (fun o M1 hP hI => ⟨hP, hI⟩)
  refine ⟨[(2, 0, 0, 0, 0)], [(2, 60, 0, 0, 0)], _, _, _, _, _, _, _, ⟨rfl, trivial⟩, ⟨rfl, trivial⟩, hc, hm, fun hok => ⟨?_, fun z => ?_, fun z => ?_⟩, fun hok => ⟨?_, fun z => ?_, fun z => ?_⟩⟩
  · refine ⟨⟨?_, ?_, fun i i0 i1 => ?_, fun i i0 i1 => ?_⟩, lm_S_k (fun q j hC => by unfold lm_CS at hC; rcases hC with ⟨rfl, rfl⟩ | ⟨rfl, rfl⟩ | ⟨rfl, rfl⟩ | ⟨rfl, j0, j1⟩ | ⟨rfl | rfl | rfl | rfl | rfl | rfl, j0, j1⟩ | ⟨rfl, rfl | rfl⟩ | ⟨rfl, j0, j1⟩ | ⟨rfl | rfl | rfl, j0, j1⟩ <;> simp [xj, xa_up]) hS⟩
    · simp [xj, xa_up]
      exact r1
    · simp [xj, xa_up]
    · simp [xj, xa_up]
      exact r3 i i0 i1
    · simp [xj, xa_up]
      exact r4 i i0 i1
  · simp [xa_up]
  · simp [xa_up]
  · refine ⟨⟨?_, ?_, fun i i0 i1 => ?_, fun i i0 i1 => ?_⟩, lm_S_k (fun q j hC => by unfold lm_CS at hC; rcases hC with ⟨rfl, rfl⟩ | ⟨rfl, rfl⟩ | ⟨rfl, rfl⟩ | ⟨rfl, j0, j1⟩ | ⟨rfl | rfl | rfl | rfl | rfl | rfl, j0, j1⟩ | ⟨rfl, rfl | rfl⟩ | ⟨rfl, j0, j1⟩ | ⟨rfl | rfl | rfl, j0, j1⟩ <;> simp [xj, xa_up]) hS⟩
    · simp [xj, xa_up]
      exact r1
    · simp [xj, xa_up]
      exact r2
    · simp [xj, xa_up]
      exact r3 i i0 i1
    · simp [xj, xa_up]
      exact r4 i i0 i1
  · simp [xa_up]
  · simp [xa_up])
