-- wheels, meshes, builds: class and reference hold the same (made by wip/u/mklump.py)
set_option maxRecDepth 20000
def y_eqV (v w : y_V) : Bool := Nat.beq v.1 w.1 && (decide (v.2.1 = w.2.1) && (decide (v.2.2.1 = w.2.2.1) && (Nat.beq v.2.2.2.1 w.2.2.2.1 && (decide (v.2.2.2.2.1 = w.2.2.2.2.1) && (Nat.beq v.2.2.2.2.2.1 w.2.2.2.2.2.1 && decide (v.2.2.2.2.2.2 = w.2.2.2.2.2.2))))))
theorem y_eqV_eq {v w : y_V} (h : y_eqV v w = true) : v = w := by
  obtain ⟨a1, a2, a3, a4, a5, a6, a7⟩ := v
  obtain ⟨b1, b2, b3, b4, b5, b6, b7⟩ := w
  unfold y_eqV at h
  simp only [Bool.and_eq_true, Nat.beq_eq, decide_eq_true_eq] at h
  obtain ⟨rfl, rfl, rfl, rfl, rfl, rfl, rfl⟩ := h
  rfl
def y_eqL : List y_V → List y_V → Bool
  | [], [] => true
  | v :: l, w :: m => y_eqV v w && y_eqL l m
  | _, _ => false
theorem y_eqL_eq : ∀ {l m : List y_V}, y_eqL l m = true → l = m
  | [], [], _ => rfl
  | v :: l, w :: m, h => by
    rw [y_eqL, Bool.and_eq_true] at h
    rw [y_eqV_eq h.1, y_eqL_eq h.2]
  | [], _ :: _, h => by cases h
  | _ :: _, [], h => by cases h
def y_eqR (a b : y_R1) : Bool := decide (a.1 = b.1) && (Nat.beq a.2.1 b.2.1 && (Nat.beq a.2.2.1 b.2.2.1 && (Nat.beq a.2.2.2.1 b.2.2.2.1 && y_eqL a.2.2.2.2 b.2.2.2.2)))
theorem y_eqR_eq {a b : y_R1} (h : y_eqR a b = true) : a = b := by
  obtain ⟨a1, a2, a3, a4, a5⟩ := a
  obtain ⟨b1, b2, b3, b4, b5⟩ := b
  unfold y_eqR at h
  simp only [Bool.and_eq_true, Nat.beq_eq, decide_eq_true_eq] at h
  obtain ⟨rfl, rfl, rfl, rfl, h⟩ := h
  rw [y_eqL_eq h]
/-- a role that may be read only -/
def y_ro1 (a b : y_R1) : Bool := (y_eqR a b && !y_rov b) || (match a.2.2.2.2 with
  | [v] => decide (a.1 = true) && (Nat.beq a.2.2.2.1 0 && y_eqR b (true, a.2.1, a.2.2.1, 0, [v, v, v]))
  | _ => false)
theorem y_ro1_eq {a b : y_R1} (h : y_ro1 a b = true) : (a = b ∧ y_rov b = false) ∨ ∃ (t n : Nat) (v : y_V), a = (true, t, n, 0, [v]) ∧ b = (true, t, n, 0, [v, v, v]) := by
  obtain ⟨a1, a2, a3, a4, a5⟩ := a
  unfold y_ro1 at h
  rw [Bool.or_eq_true, Bool.and_eq_true, Bool.not_eq_true'] at h
  rcases h with h | h
  · exact Or.inl ⟨y_eqR_eq h.1, h.2⟩
  · rcases a5 with _ | ⟨v, _ | ⟨w, l⟩⟩
    · cases h
    · have h : (decide (a1 = true) && (Nat.beq a4 0 && y_eqR b (true, a2, a3, 0, [v, v, v]))) = true := h
      simp only [Bool.and_eq_true, decide_eq_true_eq, Nat.beq_eq] at h
      obtain ⟨h1, h2, h3⟩ := h
      subst h1 h2
      exact Or.inr ⟨a2, a3, v, rfl, y_eqR_eq h3⟩
    · cases h
def y_roB (Ra Rb : y_R) : Bool := (List.range Ra.1.length).all (fun r => match Ra.1[r]? with
  | some a => (match Rb.1[r]? with
    | some b => y_ro1 a b
    | none => false)
  | none => false) && (decide (Ra.1.length = Rb.1.length) && decide (Ra.2 = Rb.2))
theorem y_roB_eq {Ra Rb : y_R} (h : y_roB Ra Rb = true) : (∀ r, r < Ra.1.length → ∃ a b, Ra.1[r]? = some a ∧ Rb.1[r]? = some b ∧ y_ro1 a b = true) ∧ Ra.1.length = Rb.1.length ∧ Ra.2 = Rb.2 := by
  unfold y_roB at h
  rw [Bool.and_eq_true, Bool.and_eq_true, decide_eq_true_eq, decide_eq_true_eq] at h
  refine ⟨fun r hr => ?_, h.2⟩
  have h1 := List.all_eq_true.mp h.1 r (List.mem_range.mpr hr)
  split at h1
  next a ea =>
    split at h1
    next b eb => exact ⟨a, b, ea, eb, h1⟩
    next => cases h1
  next => cases h1
theorem y_ro_at {Ra Rb : y_R} (h : y_roB Ra Rb = true) {r : Nat} {a : y_R1} (ha : Ra.1[r]? = some a) : ∃ b, Rb.1[r]? = some b ∧ y_ro1 a b = true := by
  obtain ⟨h1, -, -⟩ := y_roB_eq h
  obtain ⟨a', b, e1, e2, e3⟩ := h1 r (List.getElem?_eq_some_iff.mp ha).1
  rw [ha] at e1
  cases e1
  exact ⟨b, e2, e3⟩
theorem y_ro_ta {Ra Rb : y_R} (h : y_roB Ra Rb = true) {r : Nat} {b : y_R1} (hb : Rb.1[r]? = some b) : ∃ a, Ra.1[r]? = some a ∧ y_ro1 a b = true := by
  obtain ⟨h1, h2, -⟩ := y_roB_eq h
  obtain ⟨a, b', e1, e2, e3⟩ := h1 r (by rw [h2]; exact (List.getElem?_eq_some_iff.mp hb).1)
  rw [hb] at e2
  cases e2
  exact ⟨a, e1, e3⟩
theorem iv_ctZ {h : g_H} {q a n t : Nat} {b : Bool} {f : Nat → Value} (e : h[q]? = some (a, b, t, n, f)) (j : Nat) : iv_ct h q j = f j := by
  unfold iv_ct
  rw [e]
theorem y_ro_fwd {Rr : y_R} (hf : y_roB y_Rc Rr = true) {W : y_W} {β : Nat → Int} {h : g_H} (H : y_H (iv_ct h) y_Rc W β h) : y_H (iv_ct h) Rr W β h := by
  refine ⟨H.1, fun q a r hq => ?_, fun p hp => ?_⟩
  · obtain ⟨ro, f, h1, h2, h3⟩ := H.2.1 q a r hq
    obtain ⟨b, hb, hab⟩ := y_ro_at hf h1
    rcases y_ro1_eq hab with ⟨rfl, -⟩ | ⟨t, n, v, rfl, rfl⟩
    · exact ⟨_, f, hb, h2, h3⟩
    · refine ⟨_, f, hb, h2, fun j hj => ?_⟩
      rcases h3 j hj with g | g
      · cases g.1
      · exact Or.inr ⟨g.1, fun _ => (iv_ctZ h2 j).symm⟩
  · obtain ⟨u1, q, a, ro, f, n, v1, v2, v3, v4, v5⟩ := H.2.2 p (by rw [(y_roB_eq hf).2.2]; exact hp)
    obtain ⟨b, hb, hab⟩ := y_ro_at hf v2
    rcases y_ro1_eq hab with ⟨rfl, -⟩ | ⟨t, n', v, rfl, rfl⟩
    · exact ⟨u1, q, a, _, f, n, v1, hb, v3, v4, v5⟩
    · exact ⟨u1, q, a, _, f, n, v1, hb, v3, v4, v5⟩
theorem y_ro_bwd {Rr : y_R} (hf : y_roB y_Rc Rr = true) {φ : Nat → Nat → Value} {W' : y_W} {β' : Nat → Int} {h' : g_H} (H' : y_H φ Rr W' β' h') : y_H (iv_ct h') y_Rc W' β' h' := by
  refine ⟨H'.1, fun q a r hq => ?_, fun p hp => ?_⟩
  · obtain ⟨b, f, h1, h2, h3⟩ := H'.2.1 q a r hq
    obtain ⟨ro, hro, hab⟩ := y_ro_ta hf h1
    rcases y_ro1_eq hab with ⟨rfl, -⟩ | ⟨t, n, v, rfl, rfl⟩
    · refine ⟨_, f, hro, h2, fun j hj => ?_⟩
      rcases h3 j hj with g | g
      · exact Or.inl ⟨g.1, (iv_ctZ h2 j).symm⟩
      · exact Or.inr ⟨g.1, fun h => (y_Rc_no hro h).elim⟩
    · refine ⟨_, f, hro, h2, fun j hj => ?_⟩
      rcases h3 j hj with g | g
      · cases g.1
      · exact Or.inr ⟨g.1, fun h => (y_Rc_no hro h).elim⟩
  · obtain ⟨u1, q, a, ro, f, n, v1, v2, v3, v4, v5⟩ := H'.2.2 p (by rw [← (y_roB_eq hf).2.2]; exact hp)
    obtain ⟨b, hb, hab⟩ := y_ro_ta hf v2
    rcases y_ro1_eq hab with ⟨rfl, -⟩ | ⟨t, n', v, rfl, rfl⟩
    · exact ⟨u1, q, a, _, f, n, v1, hb, v3, v4, v5⟩
    · exact ⟨u1, q, a, _, f, n, v1, hb, v3, v4, v5⟩
/-- what may be read only is as it was -/
def iv_roF (Rr : y_R) (W : y_W) (h h' : g_H) : Prop := ∀ (q a r : Nat) (b : y_R1), W[q]? = some (a, r) → Rr.1[r]? = some b → y_rov b = true → ∃ f, h'[q]? = some (a, b.1, b.2.1, b.2.2.1, f) ∧ ∀ j, j < b.2.2.1 → f j = iv_ct h q j
theorem y_ro_fr {Rr : y_R} {W W' : y_W} {β' : Nat → Int} {h h' : g_H} (hWW : W <+: W') (H' : y_H (iv_ct h) Rr W' β' h') : iv_roF Rr W h h' := by
  intro q a r b h1 h2 h3
  have hw' : W'[q]? = some (a, r) := by
    obtain ⟨t, rfl⟩ := hWW
    rw [List.getElem?_append_left (List.getElem?_eq_some_iff.mp h1).1]
    exact h1
  obtain ⟨b', f, k1, k2, k3⟩ := H'.2.1 q a r hw'
  rw [h2] at k1
  cases k1
  refine ⟨f, k2, fun j hj => ?_⟩
  rcases k3 j hj with g | g
  · exact g.2
  · exact g.2 h3
/-- what holds between calls, its world told -/
def iv_iW (A : Nat → Nat) (W : y_W) (h : g_H) : Prop := (∃ β : Nat → Int, y_H (iv_ct h) y_Rc W β h) ∧ iv_W A W ∧ iv_mod A h
theorem iv_iW_inv {A : Nat → Nat} {W : y_W} {h : g_H} (hI : iv_iW A W h) : iv_inv A h := by
  obtain ⟨⟨β, hH⟩, hW, hM⟩ := hI
  exact ⟨⟨W, β, hH, hW⟩, hM⟩
theorem iv_W_k {A : Nat → Nat} {W W' : y_W} (hW : iv_W A W) (hWW : W <+: W') : iv_W A W' := fun q r hr => by
  have h1 := hW q r hr
  obtain ⟨t, rfl⟩ := hWW
  rw [List.getElem?_append_left (List.getElem?_eq_some_iff.mp h1).1]
  exact h1
/-- what a run of the class that only reads the roles told leaves -/
theorem iv_backR {Rr : y_R} (hf : y_roB y_Rc Rr = true) {A : Nat → Nat} {W W' : y_W} {β' : Nat → Int} {h h' : g_H} {M0 : xa_M} (hW : iv_W A W) (hM : xa_H xm_I A M0 h h) (hInv : xm_Inv M0) (hWW : W <+: W') (hH' : y_H (iv_ct h) Rr W' β' h') : ∃ W', W <+: W' ∧ iv_iW A W' h' ∧ iv_roF Rr W h h' ∧ ∀ M : xa_M, xa_H xm_I A M h h → xa_H xm_I A M h' h' := by
  have hW' := iv_W_k hW hWW
  have hB := y_ro_bwd hf hH'
  have km : ∀ M : xa_M, xa_H xm_I A M h h → xa_H xm_I A M h' h' := fun M hM => by
    refine ⟨rfl, fun q ro S hq => ?_, fun _ _ => rfl⟩
    obtain ⟨r, ro', e1, e2, e3, e4, e5, e6⟩ := iv_fz hq
    obtain ⟨b, hb, hab⟩ := y_ro_at hf e2
    obtain ⟨f', g1, g2⟩ : ∃ f', h'[q]? = some (A q, ro'.1, ro'.2.1, ro'.2.2.1, f') ∧ ∀ j, j < ro'.2.2.1 → f' j = iv_ct h q j := by
      obtain ⟨b', f', k1, k2, k3⟩ := hH'.2.1 q (A q) r (hW' q r e1)
      rw [hb] at k1
      cases k1
      rcases y_ro1_eq hab with ⟨rfl, -⟩ | ⟨t, n', v, rfl, rfl⟩
      · refine ⟨f', k2, fun j hj => ?_⟩
        rcases k3 j hj with g | g
        · exact g.2
        · exact (y_g_no e6 g.1).elim
      · cases e6
    obtain ⟨f, k1, k2⟩ := hM.2.1 q ro S hq
    rw [e3, e4, e5] at g1
    refine ⟨f', g1, fun j hj => ?_⟩
    rw [g2 j (by rw [e5]; exact hj), iv_ctZ k1]
    exact k2 j hj
  exact ⟨W', hWW, ⟨⟨β', hB⟩, hW', M0, km M0 hM, hInv⟩, y_ro_fr hWW hH', km⟩
/-- a call of the class that only reads the roles told -/
theorem iv_callR {Rr : y_R} (hf : y_roB y_Rc Rr = true) {d j : Nat} {K : y_Call} (hK : y_CS Rr K (g_run d)) {vs : List y_V} (hs : (K j vs []).isSome = true) {A : Nat → Nat} {W : y_W} {h : g_H} (hI : iv_iW A W h) {xs : List Value} (hx : ∀ (β : Nat → Int), y_gA W β vs xs) : g_run d j xs h 0 0 (fun _ h' => ∃ W', W <+: W' ∧ iv_iW A W' h' ∧ iv_roF Rr W h h' ∧ ∀ M : xa_M, xa_H xm_I A M h h → xa_H xm_I A M h' h') := by
  obtain ⟨outs, e⟩ := Option.isSome_iff_exists.mp hs
  obtain ⟨⟨β, hH⟩, hW, M, hM, hInv⟩ := hI
  refine hK j vs [] outs e (iv_ct h) W β h xs (y_ro_fwd hf hH) (hx β) (fun q hq => by cases hq) _ (fun out _ W' β' h' x hWW _ _ hH' _ _ _ => ?_)
  exact iv_backR hf hW hM hInv hWW hH'
def y_Rr : y_R := ([
  (false, 11, 12, 0, [(2, 1, 0, 0, 0, 0, 0), (2, 13, 0, 0, 0, 0, 0), (2, 2, 0, 0, 0, 0, 0), (2, 3, 0, 0, 0, 0, 0), (2, 5, 0, 0, 0, 0, 0), (2, 6, 0, 0, 0, 0, 0), (2, 7, 0, 0, 0, 0, 0), (2, 8, 0, 0, 0, 0, 0), (2, 9, 0, 0, 0, 0, 0), (2, 10, 0, 0, 0, 0, 0), (2, 11, 0, 0, 0, 0, 0), (2, 11, 0, 0, 0, 0, 0)]),
  (false, 1, 11, 0, [(2, 14, 0, 0, 0, 0, 0), (2, 15, 0, 0, 0, 0, 0), (2, 16, 0, 0, 0, 0, 0), (2, 17, 0, 0, 0, 0, 0), (2, 18, 0, 0, 0, 0, 0), (2, 19, 0, 0, 0, 0, 0), (2, 20, 0, 0, 0, 0, 0), (2, 21, 0, 0, 0, 0, 0), (2, 22, 0, 0, 0, 0, 0), (0, (-2147483648), 2147483647, 0, 0, 0, 0), (0, (-2147483648), 2147483647, 0, 0, 0, 0)]),
  (false, 9, 3, 0, [(2, 23, 0, 0, 0, 0, 0), (2, 24, 0, 0, 0, 0, 0), (0, 0, 1, 0, 0, 0, 0)]),
  (false, 3, 14, 0, [(2, 4, 0, 0, 0, 0, 0), (2, 25, 0, 0, 0, 0, 0), (2, 26, 0, 0, 0, 0, 0), (2, 27, 0, 0, 0, 0, 0), (2, 28, 0, 0, 0, 0, 0), (2, 29, 0, 0, 0, 0, 0), (2, 30, 0, 0, 0, 0, 0), (2, 31, 0, 0, 0, 0, 0), (2, 32, 0, 0, 0, 0, 0), (2, 33, 0, 0, 0, 0, 0), (0, (-2147483648), 2147483647, 0, 0, 0, 0), (1, (-9223372036854775808), 9223372036854775807, 0, 0, 0, 0), (1, (-9223372036854775808), 9223372036854775807, 0, 0, 0, 0), (0, 0, 1, 0, 0, 0, 0)]),
  (false, 10, 5, 0, [(2, 34, 0, 0, 0, 0, 0), (2, 35, 0, 0, 0, 0, 0), (2, 36, 0, 0, 0, 0, 0), (2, 37, 0, 0, 0, 0, 0), (0, (-2147483648), 2147483647, 0, 0, 0, 0)]),
  (false, 8, 2, 0, [(2, 38, 0, 0, 0, 0, 0), (0, (-2147483648), 2147483647, 0, 0, 0, 0)]),
  (false, 7, 3, 0, [(0, 10, 400, 0, 0, 0, 0), (0, 10, 400, 0, 0, 0, 0), (2, 39, 0, 0, 0, 0, 0)]),
  (false, 4, 4, 0, [(2, 40, 0, 0, 0, 0, 0), (2, 41, 0, 0, 0, 0, 0), (2, 42, 0, 0, 0, 0, 0), (0, (-2147483648), 2147483647, 0, 0, 0, 0)]),
  (false, 2, 7, 0, [(2, 43, 0, 0, 0, 0, 0), (2, 44, 0, 0, 0, 0, 0), (2, 45, 0, 0, 0, 0, 0), (2, 46, 0, 0, 0, 0, 0), (0, (-2147483648), 2147483647, 0, 0, 0, 0), (0, 0, 20, 0, 0, 0, 0), (0, (-2147483648), 2147483647, 0, 0, 0, 0)]),
  (false, 5, 5, 0, [(2, 47, 0, 0, 0, 0, 0), (2, 48, 0, 0, 0, 0, 0), (2, 49, 0, 0, 0, 0, 0), (2, 50, 0, 0, 0, 0, 0), (0, (-2147483648), 2147483647, 0, 0, 0, 0)]),
  (false, 6, 2, 0, [(2, 51, 0, 0, 0, 0, 0), (0, (-2147483648), 2147483647, 0, 0, 0, 0)]),
  (false, 0, 8, 0, [(2, 52, 0, 0, 0, 0, 0), (2, 53, 0, 0, 0, 0, 0), (2, 54, 0, 0, 0, 0, 0), (2, 55, 0, 0, 0, 0, 0), (0, (-2147483648), 2147483647, 0, 0, 0, 0), (0, (-2147483648), 2147483647, 0, 0, 0, 0), (0, (-2147483648), 2147483647, 0, 0, 0, 0), (0, 0, 1, 0, 0, 0, 0)]),
  (false, 12, 69, 0, []),
  (true, 4, 4, 0, [(3, 1, 0, 0, 0, 0, 0), (3, 1, 0, 0, 0, 0, 0), (3, 1, 0, 0, 0, 0, 0)]),
  (true, 0, 14, 0, [(0, (-2147483648), 2147483647, 0, 0, 0, 0), (0, (-2147483648), 2147483647, 0, 0, 0, 0), (0, (-2147483648), 2147483647, 0, 0, 0, 0)]),
  (true, 0, 14, 0, [(0, 0, 400, 0, 0, 0, 0), (0, 0, 400, 0, 0, 0, 0), (0, 0, 400, 0, 0, 0, 0)]),
  (true, 0, 14, 0, [(0, (-2147483648), 2147483647, 0, 0, 0, 0), (0, (-2147483648), 2147483647, 0, 0, 0, 0), (0, (-2147483648), 2147483647, 0, 0, 0, 0)]),
  (true, 0, 14, 0, [(0, (-2147483648), 2147483647, 0, 0, 0, 0), (0, (-2147483648), 2147483647, 0, 0, 0, 0), (0, (-2147483648), 2147483647, 0, 0, 0, 0)]),
  (true, 0, 14, 0, [(0, (-2147483648), 2147483647, 0, 0, 0, 0), (0, (-2147483648), 2147483647, 0, 0, 0, 0), (0, (-2147483648), 2147483647, 0, 0, 0, 0)]),
  (true, 0, 16, 0, [(0, (-2147483648), 2147483647, 0, 0, 0, 0), (0, (-2147483648), 2147483647, 0, 0, 0, 0), (0, (-2147483648), 2147483647, 0, 0, 0, 0)]),
  (true, 0, 16, 0, [(0, (-2147483648), 2147483647, 0, 0, 0, 0), (0, (-2147483648), 2147483647, 0, 0, 0, 0), (0, (-2147483648), 2147483647, 0, 0, 0, 0)]),
  (true, 0, 10, 0, [(0, (-2147483648), 2147483647, 0, 0, 0, 0), (0, (-2147483648), 2147483647, 0, 0, 0, 0), (0, (-2147483648), 2147483647, 0, 0, 0, 0)]),
  (true, 0, 10, 0, [(0, (-2147483648), 2147483647, 0, 0, 0, 0), (0, (-2147483648), 2147483647, 0, 0, 0, 0), (0, (-2147483648), 2147483647, 0, 0, 0, 0)]),
  (true, 1, 10, 0, [(1, (-9223372036854775808), 9223372036854775807, 0, 0, 0, 0)]),
  (true, 1, 10, 0, [(1, (-9223372036854775808), 9223372036854775807, 0, 0, 0, 0)]),
  (true, 0, 14, 0, [(0, (-2147483648), 2147483647, 0, 0, 0, 0)]),
  (true, 0, 14, 0, [(0, (-2147483648), 2147483647, 0, 0, 0, 0)]),
  (true, 0, 14, 0, [(0, (-2147483648), 2147483647, 0, 0, 0, 0)]),
  (true, 0, 14, 0, [(0, 0, 400, 0, 0, 0, 0)]),
  (true, 0, 14, 0, [(0, (-2147483648), 2147483647, 0, 0, 0, 0)]),
  (true, 1, 14, 0, [(1, (-9223372036854775808), 9223372036854775807, 0, 0, 0, 0)]),
  (true, 1, 14, 0, [(1, (-9223372036854775808), 9223372036854775807, 0, 0, 0, 0)]),
  (true, 0, 800, 0, [(0, (-2147483648), 2147483647, 0, 0, 0, 0)]),
  (true, 0, 14, 0, [(0, (-2147483648), 2147483647, 0, 0, 0, 0)]),
  (true, 0, 10, 0, [(0, (-2147483648), 2147483647, 0, 0, 0, 0)]),
  (true, 0, 10, 0, [(0, (-2147483648), 2147483647, 0, 0, 0, 0)]),
  (true, 0, 10, 0, [(0, (-2147483648), 2147483647, 0, 0, 0, 0)]),
  (true, 0, 10, 0, [(0, (-2147483648), 2147483647, 0, 0, 0, 0)]),
  (true, 0, 80, 0, [(0, (-2147483648), 2147483647, 0, 0, 0, 0), (0, (-2147483648), 2147483647, 0, 0, 0, 0), (0, (-2147483648), 2147483647, 0, 0, 0, 0)]),
  (true, 0, 61, 0, [(0, (-2147483648), 2147483647, 0, 0, 0, 0)]),
  (true, 0, 14, 0, [(0, (-2147483648), 2147483647, 0, 0, 0, 0)]),
  (true, 0, 14, 0, [(0, (-2147483648), 2147483647, 0, 0, 0, 0)]),
  (true, 0, 14, 0, [(0, (-2147483648), 2147483647, 0, 0, 0, 0)]),
  (true, 2, 223, 0, [(0, 0, 1, 0, 0, 0, 0), (0, 0, 1, 0, 0, 0, 0), (0, 0, 1, 0, 0, 0, 0)]),
  (true, 0, 20, 0, [(0, (-2147483648), 2147483647, 0, 0, 0, 0), (0, (-2147483648), 2147483647, 0, 0, 0, 0), (0, (-2147483648), 2147483647, 0, 0, 0, 0)]),
  (true, 2, 20, 0, [(0, 0, 1, 0, 0, 0, 0), (0, 0, 1, 0, 0, 0, 0), (0, 0, 1, 0, 0, 0, 0)]),
  (true, 0, 8, 0, [(0, (-2147483648), 2147483647, 0, 0, 0, 0), (0, (-2147483648), 2147483647, 0, 0, 0, 0), (0, (-2147483648), 2147483647, 0, 0, 0, 0)]),
  (true, 0, 12, 0, [(0, (-2147483648), 2147483647, 0, 0, 0, 0), (0, (-2147483648), 2147483647, 0, 0, 0, 0), (0, (-2147483648), 2147483647, 0, 0, 0, 0)]),
  (true, 0, 12, 0, [(0, (-2147483648), 2147483647, 0, 0, 0, 0), (0, (-2147483648), 2147483647, 0, 0, 0, 0), (0, (-2147483648), 2147483647, 0, 0, 0, 0)]),
  (true, 0, 12, 0, [(0, (-2147483648), 2147483647, 0, 0, 0, 0), (0, (-2147483648), 2147483647, 0, 0, 0, 0), (0, (-2147483648), 2147483647, 0, 0, 0, 0)]),
  (true, 0, 12, 0, [(0, (-2147483648), 2147483647, 0, 0, 0, 0), (0, (-2147483648), 2147483647, 0, 0, 0, 0), (0, (-2147483648), 2147483647, 0, 0, 0, 0)]),
  (true, 1, 16, 0, [(1, (-9223372036854775808), 9223372036854775807, 0, 0, 0, 0)]),
  (true, 0, 8, 0, [(0, (-2147483648), 2147483647, 0, 0, 0, 0), (0, (-2147483648), 2147483647, 0, 0, 0, 0), (0, (-2147483648), 2147483647, 0, 0, 0, 0)]),
  (true, 0, 8, 0, [(0, (-2147483648), 2147483647, 0, 0, 0, 0), (0, (-2147483648), 2147483647, 0, 0, 0, 0), (0, (-2147483648), 2147483647, 0, 0, 0, 0)]),
  (true, 0, 8, 0, [(0, (-2147483648), 2147483647, 0, 0, 0, 0), (0, (-2147483648), 2147483647, 0, 0, 0, 0), (0, (-2147483648), 2147483647, 0, 0, 0, 0)]),
  (true, 0, 256, 0, [(0, (-2147483648), 2147483647, 0, 0, 0, 0)]),
  (true, 0, 14, 0, []),
  (true, 0, 14, 0, []),
  (true, 0, 14, 0, []),
  (true, 0, 14, 0, []),
  (true, 0, 14, 0, []),
  (true, 0, 16, 0, []),
  (true, 0, 16, 0, []),
  (true, 0, 10, 0, []),
  (true, 0, 10, 0, []),
  (true, 0, 8, 0, []),
  (true, 0, 8, 0, []),
  (true, 0, 8, 0, []),
  (true, 3, 80, 0, []),
  (true, 1, 32, 0, []),
  (true, 1, 10, 0, []),
  (true, 1, 10, 0, []),
  (true, 2, 10, 0, []),
  (true, 0, 10, 0, []),
  (true, 0, 10, 0, []),
  (true, 0, 14, 0, []),
  (true, 0, 14, 0, []),
  (true, 0, 14, 0, []),
  (true, 2, 14, 0, []),
  (true, 0, 14, 0, []),
  (true, 1, 15, 0, []),
  (true, 1, 15, 0, []),
  (true, 0, 5614, 0, []),
  (true, 0, 8, 0, []),
  (true, 0, 8, 0, []),
  (true, 0, 8, 0, []),
  (true, 0, 4, 0, []),
  (true, 0, 401, 0, []),
  (true, 0, 14, 0, []),
  (true, 0, 14, 0, []),
  (true, 0, 8, 0, []),
  (true, 2, 223, 0, []),
  (true, 0, 20, 0, []),
  (true, 2, 20, 0, []),
  (true, 0, 8, 0, []),
  (true, 0, 12, 0, []),
  (true, 0, 12, 0, []),
  (true, 0, 12, 0, []),
  (true, 0, 12, 0, []),
  (true, 0, 496, 0, []),
  (true, 2, 4, 0, []),
  (true, 1, 1, 0, [(1, (-9223372036854775808), 9223372036854775807, 0, 0, 0, 0)])],
  [(300001, 8, 5)])
theorem y_Rr_ok : y_Rok y_Rr := y_RokB_ok (by decide +kernel)
theorem y_Rr_ro : y_roB y_Rc y_Rr = true := by decide +kernel
def y_Kr : Nat → y_Call := y_K y_Rr s_ft s_mi s_codes y_An 100000 y_hand
def y_Krd : Nat → y_Call := y_K y_Rr s_ft s_mi s_codes y_An2 100000 y_hand
theorem y_Kr_ok (d : Nat) : y_CS y_Rr (y_Kr d) (g_run d) := y_K_ok y_Rr_ok s_ft_ok s_mi_ok s_codes_ok (y_hand_ok y_Rr) d
theorem y_Krd_ok (d : Nat) : y_CS y_Rr (y_Krd d) (g_run d) := y_K_ok y_Rr_ok s_ft_ok s_mi_ok s_codes_ok (y_hand_ok y_Rr) d
