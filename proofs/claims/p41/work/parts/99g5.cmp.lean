-- games: the counts are the same (made by wip/port/mkJ.py)
set_option maxRecDepth 20000
/-- fields that a run may write -/
def iv_E (ci k : Nat) : Bool := !((Nat.beq ci 2 && Nat.beq k 6) || (Nat.beq ci 12 && Nat.beq k 59))
/-- the methods that may write others -/
def iv_B : List Nat := [183, 184, 285]
set_option maxRecDepth 100000 in
theorem iv_TB_0 : f_TB iv_E iv_B 0 20 = true := by decide +kernel
set_option maxRecDepth 100000 in
theorem iv_TB_1 : f_TB iv_E iv_B 20 20 = true := by decide +kernel
set_option maxRecDepth 100000 in
theorem iv_TB_2 : f_TB iv_E iv_B 40 20 = true := by decide +kernel
set_option maxRecDepth 100000 in
theorem iv_TB_3 : f_TB iv_E iv_B 60 20 = true := by decide +kernel
set_option maxRecDepth 100000 in
theorem iv_TB_4 : f_TB iv_E iv_B 80 20 = true := by decide +kernel
set_option maxRecDepth 100000 in
theorem iv_TB_5 : f_TB iv_E iv_B 100 20 = true := by decide +kernel
set_option maxRecDepth 100000 in
theorem iv_TB_6 : f_TB iv_E iv_B 120 20 = true := by decide +kernel
set_option maxRecDepth 100000 in
theorem iv_TB_7 : f_TB iv_E iv_B 140 20 = true := by decide +kernel
set_option maxRecDepth 100000 in
theorem iv_TB_8 : f_TB iv_E iv_B 160 20 = true := by decide +kernel
set_option maxRecDepth 100000 in
theorem iv_TB_9 : f_TB iv_E iv_B 180 20 = true := by decide +kernel
set_option maxRecDepth 100000 in
theorem iv_TB_10 : f_TB iv_E iv_B 200 20 = true := by decide +kernel
set_option maxRecDepth 100000 in
theorem iv_TB_11 : f_TB iv_E iv_B 220 20 = true := by decide +kernel
set_option maxRecDepth 100000 in
theorem iv_TB_12 : f_TB iv_E iv_B 240 20 = true := by decide +kernel
set_option maxRecDepth 100000 in
theorem iv_TB_13 : f_TB iv_E iv_B 260 20 = true := by decide +kernel
set_option maxRecDepth 100000 in
theorem iv_TB_14 : f_TB iv_E iv_B 280 20 = true := by decide +kernel
set_option maxRecDepth 100000 in
theorem iv_TB_15 : f_TB iv_E iv_B 300 2 = true := by decide +kernel
theorem iv_T_ok : f_all iv_E iv_B := by
  intro j hj
  have hl : j < 302 := by
    unfold f_T at hj
    rw [Bool.and_eq_true, Nat.blt_eq] at hj
    exact hj.1
  by_cases c0 : j < 20
  · exact f_TB_at iv_TB_0 (by omega) (by omega) hj
  by_cases c1 : j < 40
  · exact f_TB_at iv_TB_1 (by omega) (by omega) hj
  by_cases c2 : j < 60
  · exact f_TB_at iv_TB_2 (by omega) (by omega) hj
  by_cases c3 : j < 80
  · exact f_TB_at iv_TB_3 (by omega) (by omega) hj
  by_cases c4 : j < 100
  · exact f_TB_at iv_TB_4 (by omega) (by omega) hj
  by_cases c5 : j < 120
  · exact f_TB_at iv_TB_5 (by omega) (by omega) hj
  by_cases c6 : j < 140
  · exact f_TB_at iv_TB_6 (by omega) (by omega) hj
  by_cases c7 : j < 160
  · exact f_TB_at iv_TB_7 (by omega) (by omega) hj
  by_cases c8 : j < 180
  · exact f_TB_at iv_TB_8 (by omega) (by omega) hj
  by_cases c9 : j < 200
  · exact f_TB_at iv_TB_9 (by omega) (by omega) hj
  by_cases c10 : j < 220
  · exact f_TB_at iv_TB_10 (by omega) (by omega) hj
  by_cases c11 : j < 240
  · exact f_TB_at iv_TB_11 (by omega) (by omega) hj
  by_cases c12 : j < 260
  · exact f_TB_at iv_TB_12 (by omega) (by omega) hj
  by_cases c13 : j < 280
  · exact f_TB_at iv_TB_13 (by omega) (by omega) hj
  by_cases c14 : j < 300
  · exact f_TB_at iv_TB_14 (by omega) (by omega) hj
  by_cases c15 : j < 302
  · exact f_TB_at iv_TB_15 (by omega) (by omega) hj
  omega
/-- what class and reference count is the same -/
def iv_R (A : Nat → Nat) (h : g_H) : Prop := ∃ (n : Int32) (f1 f2 : Nat → Value), h[38]? = some (A 38, false, 2, 7, f1) ∧ f1 6 = .int n ∧ h[60]? = some (A 60, false, 12, 69, f2) ∧ f2 59 = .int n
theorem iv_R_fr {A : Nat → Nat} {h h' : g_H} (hF : f_Fr iv_E h h') (hR : iv_R A h) : iv_R A h' := by
  obtain ⟨n, f1, f2, a3, a4, a5, a6⟩ := hR
  obtain ⟨g1, b3, b4⟩ := hF _ _ _ _ _ a3
  obtain ⟨g2, b5, b6⟩ := hF _ _ _ _ _ a5
  exact ⟨n, g1, g2, b3, (b4 6 rfl).trans a4, b5, (b6 59 rfl).trans a6⟩
def iv_J (A : Nat → Nat) (h : g_H) : Prop := iv_inv A h ∧ iv_R A h
theorem iv_pairJ {A : Nat → Nat} {jx jm : Nat} {spec : List Nat} {cmp lg : Bool} (hp : iv_pair (iv_inv A) A jx jm spec cmp lg) (h1 : f_T iv_B jx = true) (h2 : f_T iv_B jm = true) : iv_pair (iv_J A) A jx jm spec cmp lg := by
  intro h as hI hs
  obtain ⟨mc, ms, m1, m2, hr⟩ := hp h as hI.1 hs
  refine ⟨mc, ms, m1, m2, f_run iv_T_ok _ _ _ _ _ _ _ _ h1 hr (fun r1 h9 hq hF => ?_)⟩
  obtain ⟨v1, e1, hsh, hr2⟩ := hq
  exact ⟨v1, e1, hsh, f_run iv_T_ok _ _ _ _ _ _ _ _ h2 hr2 (fun r2 h8 hq2 hF2 => ⟨hq2.1, hq2.2, iv_R_fr (f_trans hF hF2) hI.2⟩)⟩
-- the class, with a name for its count
def y_Rg : y_R := (y_Rc.1, [(300001, 8, 6)])
theorem y_Rg_ok : y_Rok y_Rg := y_RokB_ok (by decide +kernel)
def y_Kg : Nat → y_Call := y_K y_Rg s_ft s_mi s_codes y_An 100000 y_hand
theorem y_Kg_ok (d : Nat) : y_CS y_Rg (y_Kg d) (g_run d) := y_K_ok y_Rg_ok s_ft_ok s_mi_ok s_codes_ok (y_hand_ok y_Rg) d
theorem y_H_nm {φ : Nat → Nat → Value} {R : y_R} {W : y_W} {β β' : Nat → Int} {h : g_H} {N : List (Nat × Nat × Nat)} (hR : y_Rok R) (H : y_H φ R W β h) (hb : ∀ k, 200000 ≤ k → k < 300000 → β' k = β k) (hN : ∀ p ∈ N, (∀ q q' a a' : Nat, W[q]? = some (a, p.2.1) → W[q']? = some (a', p.2.1) → q = q') ∧ ∃ (q a : Nat) (ro : y_R1) (f : Nat → Value) (n : Int32), W[q]? = some (a, p.2.1) ∧ R.1[p.2.1]? = some ro ∧ h[q]? = some (a, ro.1, ro.2.1, ro.2.2.1, f) ∧ f p.2.2 = .int n ∧ n.toInt = β' p.1) : y_H φ (R.1, N) W β' h := by
  refine ⟨H.1, fun q a r hq => ?_, hN⟩
  obtain ⟨ro, f, h1, h2, h3⟩ := H.2.1 q a r hq
  exact ⟨ro, f, h1, h2, fun j hj => (h3 j hj).imp id (y_spj_b hR hb h1)⟩
theorem iv_cg {A : Nat → Nat} {W : y_W} {β : Nat → Int} {h : g_H} {n : Int32} {f1 : Nat → Value} (H : y_H (iv_ct h) y_Rc W β h) (hW : iv_W A W) (h38 : h[38]? = some (A 38, false, 2, 7, f1)) (hn : f1 6 = .int n) : ∃ β', y_H (iv_ct h) y_Rg W β' h ∧ β' 300001 = n.toInt := by
  refine ⟨fun k => if k = 300001 then n.toInt else β k, y_H_nm y_Rc_ok H (fun k h1 h2 => if_neg (by omega)) (fun p hp => ?_), if_pos rfl⟩
  have hp' : p = (300001, 8, 6) := by simpa using hp
  subst hp'
  obtain ⟨u1, -⟩ := H.2.2 (300001, 8, 5) (by decide)
  exact ⟨u1, 38, A 38, _, f1, n, hW 38 8 rfl, rfl, h38, hn, (if_pos rfl).symm⟩
theorem iv_gc {A : Nat → Nat} {W : y_W} {β : Nat → Int} {h h' : g_H} (H : y_H (iv_ct h) y_Rg W β h') : ∃ β', y_H (iv_ct h) y_Rc W β' h' := by
  obtain ⟨u1, q, a, ro, f, n, v1, v2, v3, v4, v5⟩ := H.2.2 (300001, 8, 6) (by decide)
  obtain ⟨ro', f', w1, w2, w3⟩ := H.2.1 q a 8 v1
  cases w1
  obtain ⟨n5, e5, -⟩ := (w3 5 (by decide)).resolve_left (fun h => by cases h.1)
  refine ⟨fun k => if k = 300001 then n5.toInt else β k, y_H_nm y_Rg_ok H (fun k h1 h2 => if_neg (by omega)) (fun p hp => ?_)⟩
  have hp' : p = (300001, 8, 5) := by
    have : p ∈ [(300001, 8, 5)] := hp
    simpa using this
  subst hp'
  exact ⟨u1, q, a, _, f', n5, v1, rfl, w2, e5, (if_pos rfl).symm⟩
def iv_nS (K : y_Call) (j : Nat) (vs : List y_V) (N : y_L) (chk : y_O → Bool) : Bool := match K j vs N with
  | some outs => outs.all chk
  | none => false
/-- no name in a role's words -/
def y_noNm (R : y_R) : Bool := R.1.all (fun ro => Nat.beq ro.2.2.2.1 0 && ro.2.2.2.2.all (fun v => Nat.beq v.2.2.2.1 0 && Nat.beq v.2.2.2.2.2.1 0))
theorem y_g_any {W : y_W} {β β' : Nat → Int} {v : y_V} {x : Value} (h1 : v.2.2.2.1 = 0) (h2 : v.2.2.2.2.2.1 = 0) (h : y_g W β v x) : y_g W β' v x := by
  obtain ⟨k, lo, hi, a, b, c, d⟩ := v
  have h1 : a = 0 := h1
  have h2 : c = 0 := h2
  subst h1 h2
  rcases k with _ | _ | _ | _ | _ | k
  · obtain ⟨n, e, g1, g2, -⟩ := h
    exact ⟨n, e, g1, g2, fun h => absurd rfl h, fun h => absurd rfl h⟩
  · obtain ⟨n, e, g1, g2, -⟩ := h
    exact ⟨n, e, g1, g2, fun h => absurd rfl h, fun h => absurd rfl h⟩
  · exact h
  · exact h
  · exact h
  · exact h.elim
theorem y_H_any {φ : Nat → Nat → Value} {R : y_R} {W : y_W} {β β' : Nat → Int} {h : g_H} (hn : y_noNm R = true) (H : y_H φ R W β h) (hb : ∀ p ∈ R.2, β' p.1 = β p.1) : y_H φ R W β' h := by
  refine ⟨H.1, fun q a r hq => ?_, fun p hp => ?_⟩
  · obtain ⟨ro, f, h1, h2, h3⟩ := H.2.1 q a r hq
    have h4 := List.all_eq_true.mp hn ro (List.mem_of_getElem? h1)
    rw [Bool.and_eq_true, Nat.beq_eq, List.all_eq_true] at h4
    obtain ⟨h5, h6⟩ := h4
    refine ⟨ro, f, h1, h2, fun j hj => (h3 j hj).imp id (fun h7 => ?_)⟩
    have e : y_spj β' ro j = y_spj β ro j := by
      unfold y_spj
      rw [h5]
      simp
    rw [e]
    obtain ⟨i, ei⟩ := y_spj_cases β ro j
    rw [ei] at h7 ⊢
    unfold y_sp at h7 ⊢
    rw [List.getD_eq_getElem?_getD] at h7 ⊢
    cases e2 : ro.2.2.2.2[i]? with
    | none =>
      rw [e2] at h7
      exact h7.elim
    | some v =>
      rw [e2] at h7
      have h8 := h6 v (List.mem_of_getElem? e2)
      rw [Bool.and_eq_true, Nat.beq_eq, Nat.beq_eq] at h8
      exact y_g_any h8.1 h8.2 h7
  · obtain ⟨u1, q, a, ro, f, n, v1, v2, v3, v4, v5⟩ := H.2.2 p hp
    exact ⟨u1, q, a, ro, f, n, v1, v2, v3, v4, by rw [hb p hp]; exact v5⟩
theorem y_Rg_no : y_noNm y_Rg = true := by decide +kernel
/-- a call of the class, told of its count -/
theorem iv_callN {d j : Nat} {K : y_Call} (hK : y_CS y_Rg K (g_run d)) {vs : List y_V} {N : y_L} {chk : y_O → Bool} (hs : iv_nS K j vs N chk = true) {A : Nat → Nat} {h : g_H} (hI : iv_inv A h) {n : Int32} {f1 : Nat → Value} (h38 : h[38]? = some (A 38, false, 2, 7, f1)) (hn : f1 6 = .int n) {xs : List Value} (z : Int) (hx : ∀ (W : y_W) (β : Nat → Int), iv_W A W → β 200500 = z → y_gA W β vs xs) (hN : ∀ (W : y_W) (β : Nat → Int), β 300001 = n.toInt → y_gL W β N []) : g_run d j xs h 0 0 (fun r h' => iv_inv A h' ∧ (∀ M : xa_M, xa_H xm_I A M h h → xa_H xm_I A M h' h') ∧ ∃ (out : y_O) (W' : y_W) (β' : Nat → Int) (f' : Nat → Value) (n' : Int32), chk out = true ∧ y_gR W' β' out.1 r ∧ y_gL W' β' out.2.2 [] ∧ β' 200500 = z ∧ h'[38]? = some (A 38, false, 2, 7, f') ∧ f' 6 = .int n' ∧ n'.toInt = β' 300001) := by
  unfold iv_nS at hs
  split at hs
  next outs e =>
    obtain ⟨⟨W, β, hH, hW⟩, M, hM, hInv⟩ := hI
    obtain ⟨β0, hH0, hb0⟩ := iv_cg hH hW h38 hn
    have hH1 : y_H (iv_ct h) y_Rg W (fun k => if k = 200500 then z else β0 k) h := y_H_any y_Rg_no hH0 (fun p hp => if_neg (by
      have := List.all_eq_true.mp (show y_Rg.2.all (fun p => Nat.ble 300000 p.1) = true by decide) p hp
      have := Nat.le_of_ble_eq_true this
      omega))
    have hb1 : (fun k => if k = 200500 then z else β0 k) 300001 = n.toInt := hb0
    generalize hβ : (fun k => if k = 200500 then z else β0 k) = β1 at hH1 hb1
    have hz : β1 200500 = z := by
      rw [← hβ]
      exact if_pos rfl
    refine hK j vs N outs e (iv_ct h) W β1 h xs hH1 (hx W β1 hW hz) (hN W β1 hb1) _ (fun out ho W' β' h' x hWW hb2 hb3 hH' hR hA' hNN => ?_)
    have hW' : iv_W A W' := fun q r hr => by
      have h1 := hW q r hr
      obtain ⟨t, rfl⟩ := hWW
      rw [List.getElem?_append_left (List.getElem?_eq_some_iff.mp h1).1]
      exact h1
    obtain ⟨β2, hH2⟩ := iv_gc (A := A) hH'
    obtain ⟨u1, q, a, ro, f, n', v1, v2, v3, v4, v5⟩ := hH'.2.2 (300001, 8, 6) (by decide)
    have hq : q = 38 := u1 q 38 a (A 38) v1 (hW' 38 8 rfl)
    subst hq
    have ha := v1.symm.trans (hW' 38 8 rfl)
    cases ha
    cases v2
    exact ⟨iv_back hW hM hInv hWW hH2, fun M9 hM9 => iv_mod_k (W := W) (β := β) hM9 hW' hH2, out, W', β', f, n', List.all_eq_true.mp hs out ho, hR, hNN, by rw [hb2 200500 (by decide) (by decide)]; exact hz, v3, v4, v5⟩
  next => cases hs
/-- the answer is x, the count y -/
def iv_nP (x y : Int) (o : y_O) : Bool := match o.1, y_find o.2.2 300001 with
  | some v, some w => Nat.beq v.1 0 && (decide (v.2.1 = x) && (decide (v.2.2.1 = x) && (Nat.beq w.1 0 && (decide (w.2.1 = y) && decide (w.2.2.1 = y)))))
  | _, _ => false
theorem iv_nP_ok {x y : Int} {W : y_W} {β : Nat → Int} {o : y_O} {r : Option Value} (h : iv_nP x y o = true) (hR : y_gR W β o.1 r) (hN : y_gL W β o.2.2 []) : r = some (.int (Int32.ofInt x)) ∧ β 300001 = y := by
  unfold iv_nP at h
  split at h
  next v w e1 e2 =>
    simp only [Bool.and_eq_true, Nat.beq_eq, decide_eq_true_eq] at h
    obtain ⟨v0, v1, v2, w0, w1, w2⟩ := h
    rw [e1] at hR
    obtain ⟨z, rfl, hz⟩ := hR
    obtain ⟨k, lo, hi, q⟩ := v
    have v0 : k = 0 := v0
    have v1 : lo = x := v1
    have v2 : hi = x := v2
    subst v0 v1
    obtain ⟨m, rfl, m1, m2, -⟩ := hz
    obtain ⟨u, ⟨-, g1⟩, g2⟩ := hN _ (y_find_in e2)
    obtain ⟨m', rfl, hm⟩ := g1 (show 200000 ≤ 300001 by decide)
    obtain ⟨k', lo', hi', q'⟩ := w
    have w0 : k' = 0 := w0
    have w1 : lo' = y := w1
    have w2 : hi' = y := w2
    subst w0 w1
    obtain ⟨m2, e', h3, h4, -⟩ := g2
    cases e'
    have hm : m'.toInt = β 300001 := hm
    refine ⟨?_, by omega⟩
    rw [← show m.toInt = lo by omega, Int32.ofInt_toInt]
  next => cases h
def iv_bv (lo hi : Int) : y_V := (0, lo, hi, 0, 0, 0, 0)
theorem iv_bv_g {W : y_W} {β : Nat → Int} {lo hi : Int} {m : Int32} (h : lo ≤ m.toInt ∧ m.toInt ≤ hi) : y_g W β (iv_bv lo hi) (.int m) := ⟨m, rfl, h.1, h.2, fun h => absurd rfl h, fun h => absurd rfl h⟩
theorem iv_bi_g {W : y_W} {β : Nat → Int} {lo hi : Int} {m : Int32} (h : lo ≤ m.toInt ∧ m.toInt ≤ hi) (hz : β 200500 = m.toInt) : y_g W β (0, lo, hi, 200500, 0, 0, 0) (.int m) := ⟨m, rfl, h.1, h.2, fun _ => by show m.toInt = β 200500 + 0; omega, fun h => absurd rfl h⟩
theorem iv_bl_g {W : y_W} {β : Nat → Int} {lo hi c : Int} {m : Int32} (h : lo ≤ m.toInt ∧ m.toInt ≤ hi) (hz : m.toInt ≤ β 200500 + c) : y_g W β (0, lo, hi, 0, 0, 200500, c) (.int m) := ⟨m, rfl, h.1, h.2, fun h => absurd rfl h, fun _ => hz⟩
theorem iv_bv_N {lo hi : Int} {n : Int32} (h : lo ≤ n.toInt ∧ n.toInt ≤ hi) (W : y_W) (β : Nat → Int) (hb : β 300001 = n.toInt) : y_gL W β [(300001, iv_bv lo hi)] [] := by
  intro q hq
  rw [List.mem_singleton] at hq
  subst hq
  exact ⟨.int n, ⟨fun h => absurd h (show ¬ 300001 < 200000 by decide), fun _ => ⟨n, rfl, hb.symm⟩⟩, iv_bv_g h⟩
/-- at each count its answer, and the new one -/
def iv_nR (K : y_Call) (j : Nat) (vs : List y_V) (top : Nat) (F G : Int → Int) : Bool := (List.range (top + 1)).all (fun n => iv_nS K j vs [(300001, iv_bv n n)] (iv_nP (F n) (G n)))
theorem iv_nR_at {K : y_Call} {j : Nat} {vs : List y_V} {top : Nat} {F G : Int → Int} (h : iv_nR K j vs top F G = true) {n : Int} (h0 : 0 ≤ n) (h1 : n ≤ top) : iv_nS K j vs [(300001, iv_bv n n)] (iv_nP (F n) (G n)) = true := by
  have h2 := List.all_eq_true.mp h n.toNat (List.mem_range.mpr (by omega))
  rw [show ((n.toNat : Nat) : Int) = n by omega] at h2
  exact h2
def iv_F (n : Int) : Int := if n < 8 then n + 1 + (0) else -1
def iv_G (n : Int) : Int := if n < 8 then n + 1 else n
def iv_f (a n : Int) : Int := if (0 ≤ a ∧ a ≤ 999) then iv_F n else -1
def iv_g (a n : Int) : Int := if (0 ≤ a ∧ a ≤ 999) then iv_G n else n
set_option maxRecDepth 100000 in
theorem iv_bx_0 : iv_nR (y_Kg 60) 183 [(2, 0, 0, 0, 0, 0, 0), iv_bv (-2147483648) (-1)] 8 (fun _ => -1) (fun n => n) = true := by decide +kernel
set_option maxRecDepth 100000 in
theorem iv_bx_1 : iv_nR (y_Kg 60) 183 [(2, 0, 0, 0, 0, 0, 0), iv_bv 1000 2147483647] 8 (fun _ => -1) (fun n => n) = true := by decide +kernel
set_option maxRecDepth 100000 in
theorem iv_bx_2 : iv_nR (y_Kg 60) 183 [(2, 0, 0, 0, 0, 0, 0), iv_bv 0 999] 8 iv_F iv_G = true := by decide +kernel
theorem iv_cntX (A : Nat → Nat) (h : g_H) (m1 : Int32) (hI : iv_inv A h) {n : Int32} {f1 : Nat → Value} (h38 : h[38]? = some (A 38, false, 2, 7, f1)) (hn : f1 6 = .int n) (hnb : 0 ≤ n.toInt ∧ n.toInt ≤ 8)  : g_run 60 183 [.ref (A 0), .int m1] h 0 0 (fun r h' => r = some (.int (Int32.ofInt (iv_f m1.toInt n.toInt))) ∧ iv_inv A h' ∧ (∀ M : xa_M, xa_H xm_I A M h h → xa_H xm_I A M h' h') ∧ ∃ (f' : Nat → Value) (n' : Int32), h'[38]? = some (A 38, false, 2, 7, f') ∧ f' 6 = .int n' ∧ n'.toInt = iv_g m1.toInt n.toInt) := by
  have go : ∀ {vs : List y_V} {F G : Int → Int}, iv_nR (y_Kg 60) 183 vs 8 F G = true → ∀ z : Int, (∀ (W : y_W) (β : Nat → Int), iv_W A W → β 200500 = z → y_gA W β vs [.ref (A 0), .int m1]) → iv_f m1.toInt n.toInt = F n.toInt → iv_g m1.toInt n.toInt = G n.toInt → g_run 60 183 [.ref (A 0), .int m1] h 0 0 (fun r h' => r = some (.int (Int32.ofInt (iv_f m1.toInt n.toInt))) ∧ iv_inv A h' ∧ (∀ M : xa_M, xa_H xm_I A M h h → xa_H xm_I A M h' h') ∧ ∃ (f' : Nat → Value) (n' : Int32), h'[38]? = some (A 38, false, 2, 7, f') ∧ f' 6 = .int n' ∧ n'.toInt = iv_g m1.toInt n.toInt) := by
    intro vs F G hs z hx hF hG
    refine g_run_mono (iv_callN (y_Kg_ok 60) (iv_nR_at hs hnb.1 (by omega)) hI h38 hn z hx (iv_bv_N ⟨Int.le_refl _, Int.le_refl _⟩)) (fun r h' hp => ?_)
    obtain ⟨p1, p2, out, W', β', f', n', q1, q2, q3, q4, q5, q6, q7⟩ := hp
    obtain ⟨s1, s2⟩ := iv_nP_ok q1 q2 q3
    exact ⟨by rw [s1, hF], p1, p2, f', n', q5, q6, by rw [q7, s2, hG]⟩
  have p1 := Int32.le_toInt m1
  have q1 := Int32.toInt_lt m1
  by_cases c0 : (-2147483648) ≤ m1.toInt ∧ m1.toInt ≤ (-1)
  · exact go iv_bx_0 (0) (fun W β hW hz => ⟨⟨0, A 0, rfl, hW 0 0 rfl⟩, iv_bv_g (by omega), trivial⟩) (if_neg (by omega)) (if_neg (by omega))
  by_cases c1 : 1000 ≤ m1.toInt ∧ m1.toInt ≤ 2147483647
  · exact go iv_bx_1 (0) (fun W β hW hz => ⟨⟨0, A 0, rfl, hW 0 0 rfl⟩, iv_bv_g (by omega), trivial⟩) (if_neg (by omega)) (if_neg (by omega))
  exact go iv_bx_2 (0) (fun W β hW hz => ⟨⟨0, A 0, rfl, hW 0 0 rfl⟩, iv_bv_g (by omega), trivial⟩) (if_pos (by omega)) (if_pos (by omega))
theorem ms_gamesF {A : Nat → Nat} {h0 : g_H} {d : Nat} {M : xa_M} {post : Option xa_V → xa_M → Prop} {l1 u1 : Int} {a : Int} (hI : xm_Inv M) (k : ∀ (lo hi r : Int) (M1 : xa_M), r = iv_f a (M 60 59) → M1 60 59 = iv_g a (M 60 59) → xm_Inv M1 → post (some (0, 0, lo, hi, r)) M1) : xa_C xm_I A h0 (d + 2) 285 [(2, 60, 0, 0, 0), (0, 0, l1, u1, a)] M post := by
  refine xa_C_arg [(2, 60, 0, 0, 0), (0, 0, (-2147483648), 2147483647, a)] (xa_svR (xa_svI (fun _ _ _ _ => by omega) xa_sv0)) ?_
  refine xa_meth (Q0 := (2, 1, false, 0, 0, 12)) (by decide +kernel) ⟨rfl, rfl⟩ (full := s_c_285) rfl rfl ?_
  intro hM hv Q hgo
  have no : ¬ ((0 ≤ a ∧ a ≤ 999) ∧ M 60 59 < 8) → -1 = iv_f a (M 60 59) ∧ iv_g a (M 60 59) = M 60 59 := fun hc => by
    unfold iv_f iv_g iv_F iv_G
    by_cases c1 : 0 ≤ a ∧ a ≤ 999
    · rw [if_pos c1, if_pos c1, if_neg (by omega), if_neg (by omega)]
      exact ⟨rfl, rfl⟩
    · rw [if_neg c1, if_neg c1]
      exact ⟨rfl, rfl⟩
  have yes : ((0 ≤ a ∧ a ≤ 999) ∧ M 60 59 < 8) → iv_f a (M 60 59) = M 60 59 + 1 + (0) ∧ iv_g a (M 60 59) = M 60 59 + 1 := fun hc => by
    unfold iv_f iv_g iv_F iv_G
    rw [if_pos hc.1, if_pos hc.1, if_pos hc.2, if_pos hc.2]
    exact ⟨rfl, rfl⟩
  have b59 := xm_f59 hM
  refine hgo.1 31 [] 0 _ _ _ ?_
  show xa_C xm_I A h0 _ 214 [(0, 0, (-2147483648), 2147483647, a), (0, 0, 0, 0, 0), (0, 0, 999, 999, 999)] (xa_up M 60 21 0) _
  refine ct_in ?_ ?_
  · intro (i1 : 0 ≤ a ∧ a ≤ 999)
    refine And.intro ?_ ?_
    · intro (c2 : ¬ (M 60 59) = 8)
      refine And.intro (show 0 ≤ (M 60 59) ∧ (M 60 59) < 8 by omega) ?_
      refine And.intro (show 0 ≤ a ∧ a ≤ 999 by omega) ?_
      refine And.intro (show 0 ≤ ((M 60 59) + 1) ∧ ((M 60 59) + 1) ≤ 8 by omega) ?_
      show post (some (0, 0, 0, 8, (M 60 59) + 1)) (xa_up (xa_up (xa_up M 60 21 0) 99 (M 60 59) a) 60 59 ((M 60 59) + 1))
      exact k _ _ _ _ (by rw [(yes (by omega)).1]; omega) (by rw [(yes (by omega)).2]; simp [xa_up]) (xm_Inv_is (xm_is_u rfl (xm_is_u rfl (xm_is_u rfl xm_is_r))) hI)
    · intro (c2 : (M 60 59) = 8)
      show post (some (0, 0, (-1), (-1), (-1))) (xa_up M 60 21 0)
      exact k _ _ _ _ (no (by omega)).1 (by rw [(no (by omega)).2]; simp [xa_up]) (xm_Inv_is (xm_is_u rfl xm_is_r) hI)
  · intro (i1 : ¬ (0 ≤ a ∧ a ≤ 999))
    show post (some (0, 0, (-1), (-1), (-1))) (xa_up M 60 21 0)
    exact k _ _ _ _ (no (by omega)).1 (by rw [(no (by omega)).2]; simp [xa_up]) (xm_Inv_is (xm_is_u rfl xm_is_r) hI)
theorem iv_kmE {A : Nat → Nat} {M : xa_M} {h0 h : g_H} (hM : xa_H xm_I A M h0 h) : ∃ (f : Nat → Value) (k : Int32), h[60]? = some (A 60, false, 12, 69, f) ∧ f 59 = .int k ∧ k.toInt = M 60 59 ∧ 0 ≤ k.toInt ∧ k.toInt ≤ 8 := by
  obtain ⟨ro, S, e1, e2, e3, e4, e5⟩ : ∃ ro S, xm_I 60 = some (ro, S) ∧ ro.1 = false ∧ ro.2.1 = 12 ∧ ro.2.2.1 = 69 ∧ ∀ m : Int → Int, xa_cv ro S m 59 = (0, 0, 0, 8, m 59) := ⟨_, _, rfl, rfl, rfl, rfl, fun _ => rfl⟩
  obtain ⟨f, g1, g2⟩ := hM.2.1 60 ro S e1
  have g3 := g2 59 (by rw [e4]; decide)
  rw [e5] at g3
  obtain ⟨k, k1, k2, k3, k4⟩ := g3
  rw [e2, e3, e4] at g1
  have k2 : k.toInt = M 60 59 := k2
  have k3 : 0 ≤ M 60 59 := k3
  have k4 : M 60 59 ≤ 8 := k4
  exact ⟨f, k, g1, k1, k2, by omega, by omega⟩
theorem iv_cmp_pair (A : Nat → Nat) : iv_pair (iv_J A) A 183 285 [0] true false := by
  intro h as hJ hs
  obtain ⟨hI, n, f1, f2, a3, a4, a5, a6⟩ := hJ
  obtain ⟨m1, ys, rfl, -, hs⟩ := iv_spc hs
  obtain rfl := iv_sp0 hs
  obtain ⟨hC, M0, hM0, hInv0⟩ := hI
  obtain ⟨f9, k9, b1, b2, b3, b4, b5⟩ := iv_kmE hM0
  rw [a5] at b1
  cases b1
  rw [a6] at b2
  cases b2
  refine ⟨0, 0, by decide, by decide, g_run_mono (iv_cntX A h m1 ⟨hC, M0, hM0, hInv0⟩ a3 a4 ⟨b4, b5⟩ ) (fun r1 h1 hp => ?_)⟩
  obtain ⟨hr1, hI1, hMk, f', n', g3, g4, g5⟩ := hp
  have hM1 := hMk M0 hM0
  refine ⟨_, hr1, iv_sh_ok hI1, ?_⟩
  refine (ms_gamesF (d := 58) (A := A) (h0 := h1) (post := fun o M' => (∃ lo hi r, r = iv_f m1.toInt (M0 60 59) ∧ o = some (0, 0, lo, hi, r)) ∧ M' 60 59 = iv_g m1.toInt (M0 60 59) ∧ xm_Inv M')  hInv0 (fun lo hi r M1 q1 q2 q3 => ⟨⟨lo, hi, r, q1, rfl⟩, q2, q3⟩)) h1 [.ref (A 60), .int m1] hM1 (show xa_gS A [(2, 60, 0, 0, 0), (0, 0, -2147483648, 2147483647, m1.toInt)] [.ref (A 60), .int m1] from ⟨rfl, iv_i m1, trivial⟩) _ (fun v M' x h2 hv hx hH2 => ?_)
  obtain ⟨⟨lo, hi, r, hr, rfl⟩, hg, hInv2⟩ := hv
  obtain ⟨y, rfl, z, rfl, hz, -⟩ := hx
  have hz : z.toInt = r := hz
  refine ⟨⟨z, rfl, fun _ => ?_⟩, ⟨iv_cls_k hI1.1 hH2, M', ⟨rfl, hH2.2.1, fun _ _ => rfl⟩, hInv2⟩, ?_⟩
  · rw [b3, ← hr, ← hz, Int32.ofInt_toInt]
  · obtain ⟨f8, k8, c1, c2, c3, -⟩ := iv_kmE hH2
    have e38 := (hH2.2.2 38 (xm_I_none (by decide))).trans g3
    have ek : k8 = n' := Int32.toInt_inj.mp (by rw [c3, hg, g5, b3])
    subst ek
    exact ⟨k8, f', f8, e38, g4, c1, c2⟩
theorem iv_firstR {σ : Nat → Int} {ρ : Nat → Nat} {b : Nat} (H38 : s_litH[38]? = some (false, 2, 7, (0, 0), [(0, (5, 39)), (1, (5, 40)), (2, (5, 41)), (3, (5, 42)), (4, (0, 0)), (5, (0, 0)), (6, (0, 0))])) : iv_R ρ (s_ch σ ρ b 0 s_litH) := by
  have at_ : ∀ {q : Nat} {c : s_C}, s_litH[q]? = some c → (s_ch σ ρ b 0 s_litH)[q]? = some (ρ q, s_cc σ ρ b c) := fun {q c} h => by
    have := s_ch_get (σ := σ) (ρ := ρ) (b := b) s_litH 0 q
    rw [h, Nat.zero_add] at this
    exact this
  exact ⟨Int32.ofInt 0, _, _, at_ H38, rfl, at_ (q := 60) rfl, rfl⟩
