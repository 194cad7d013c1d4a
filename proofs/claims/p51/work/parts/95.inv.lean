-- what holds between the law's calls: the class's cells keep their roles, the model's their invariant
set_option maxRecDepth 20000
/-- the roles of the first cells -/
def iv_rl : List Nat := [0, 1, 14, 15, 16, 17, 18, 19, 20, 21, 22, 13, 2, 23, 24, 3, 4, 34, 35, 36, 37, 25, 26, 27, 28, 29, 30, 31, 32, 33, 5, 38, 6, 39, 7, 40, 41, 42, 8, 43, 44, 45, 46, 9, 47, 48, 49, 50, 10, 51, 11, 52, 53, 54, 55, 11, 52, 53, 54, 55, 12, 56, 57, 58, 59, 60, 61, 62, 63, 64, 65, 66, 67, 68, 69, 70, 71, 72, 73, 74, 75, 76, 77, 78, 79, 80, 81, 82, 83, 84, 85, 86, 87, 88, 89, 90, 91, 92, 93, 94, 95, 96, 97, 98, 99, 100, 101]
/-- what stands in the cells -/
def iv_ct (h : g_H) (q j : Nat) : Value := match h[q]? with
  | some (_, _, _, _, f) => f j
  | none => .null
def iv_W (A : Nat → Nat) (W : y_W) : Prop := ∀ q r, iv_rl[q]? = some r → W[q]? = some (A q, r)
def iv_cls (A : Nat → Nat) (h : g_H) : Prop := ∃ (W : y_W) (β : Nat → Int), y_H (iv_ct h) y_Rc W β h ∧ iv_W A W
def iv_mod (A : Nat → Nat) (h : g_H) : Prop := ∃ M : xa_M, xa_H xm_I A M h h ∧ xm_Inv M
def iv_inv (A : Nat → Nat) (h : g_H) : Prop := iv_cls A h ∧ iv_mod A h
theorem y_H_ct {φ : Nat → Nat → Value} {R : y_R} {W : y_W} {β : Nat → Int} {h : g_H} (H : y_H φ R W β h) : y_H (iv_ct h) R W β h := by
  refine ⟨H.1, fun q a r hq => ?_, H.2.2⟩
  obtain ⟨ro, f, h1, h2, h3⟩ := H.2.1 q a r hq
  refine ⟨ro, f, h1, h2, fun j hj => ?_⟩
  rcases h3 j hj with h | h
  · exact Or.inl ⟨h.1, by unfold iv_ct; rw [h2]⟩
  · exact Or.inr ⟨h.1, fun _ => by unfold iv_ct; rw [h2]⟩
-- what a method's answer is like
def iv_rt (rt : Option FieldType) (r : Option Value) : Prop := match rt with
  | none => r = none
  | some .int => ∃ v, r = some (.int v)
  | some .boolean => ∃ v, r = some (.int v) ∧ (v = 0 ∨ v = 1)
  | _ => True
theorem iv_nar {v : Int32} (h : narrow .boolean (.int v) = .int v) : v = 0 ∨ v = 1 := by
  simp only [narrow, Value.int.injEq] at h
  have h2 : (v.toBitVec &&& 1#32).toNat = v.toBitVec.toNat := congrArg (fun x : Int32 => x.toBitVec.toNat) h
  rw [BitVec.toNat_and, show (1#32).toNat = 1 from rfl, Nat.and_one_is_mod] at h2
  rcases (show v.toBitVec.toNat = 0 ∨ v.toBitVec.toNat = 1 by omega) with h3 | h3
  · exact Or.inl (Int32.toBitVec_inj.mp (BitVec.eq_of_toNat_eq h3))
  · exact Or.inr (Int32.toBitVec_inj.mp (BitVec.eq_of_toNat_eq h3))
theorem g_end_rt {cc : ByteArray} {rt : Option FieldType} {bc bs : Nat} {post post2 : Option Value → g_H → Prop} (hp : ∀ r h, post r h → iv_rt rt r → post2 r h) (S : g_S) (h : g_end cc rt bc bs post S) : g_end cc rt bc bs post2 S := by
  obtain ⟨h1, h2, h3⟩ := h
  refine ⟨h1, h2, ?_⟩
  rcases h3 with ⟨v, ty, a1, a2, a3, a4, a5⟩ | ⟨v, a1, a2, a3, a4⟩ | ⟨v, n, a1, a2, a3, a4, a5⟩ | ⟨a1, a2, a3, a4⟩
  · refine Or.inl ⟨v, ty, a1, a2, a3, a4, hp _ _ a5 ?_⟩
    subst a2
    cases ty <;> first | exact ⟨v, rfl⟩ | exact ⟨v, rfl, iv_nar a3⟩ | trivial
  · refine Or.inr (Or.inl ⟨v, a1, a2, a3, hp _ _ a4 ?_⟩)
    subst a2
    trivial
  · refine Or.inr (Or.inr (Or.inl ⟨v, n, a1, a2, a3, a4, hp _ _ a5 ?_⟩))
    subst a2
    trivial
  · refine Or.inr (Or.inr (Or.inr ⟨a1, a2, a3, hp _ _ a4 ?_⟩))
    rw [a2]
    rfl
theorem g_run_rt {d j : Nat} {as : List Value} {h : g_H} {mc ms : Nat} {post post2 : Option Value → g_H → Prop} (hr : g_run d j as h mc ms post) (hp : ∀ r h, post r h → iv_rt (g_rt j) r → post2 r h) : g_run d j as h mc ms post2 := by
  cases d with
  | zero => exact hr.elim
  | succ d =>
    obtain ⟨h1, h2, h3⟩ := hr
    exact ⟨h1, h2, fun P hP hcl => h3 P (fun S hS => hP S (g_end_rt hp S hS)) hcl⟩
theorem g_run_mono {d j : Nat} {as : List Value} {h : g_H} {mc ms : Nat} {post post2 : Option Value → g_H → Prop} (hr : g_run d j as h mc ms post) (hp : ∀ r h, post r h → post2 r h) : g_run d j as h mc ms post2 := g_run_rt hr (fun r h h1 _ => hp r h h1)
-- a call of the class leaves the model as it is
def iv_fzB (q : Nat) : Bool := match xm_I q with
  | some (ro, _) => (match iv_rl[q]? with
    | some r => (match y_Rc.1[r]? with
      | some ro' => decide (ro'.1 = ro.1) && (Nat.beq ro'.2.1 ro.2.1 && (Nat.beq ro'.2.2.1 ro.2.2.1 && ro'.2.2.2.2.isEmpty))
      | none => false)
    | none => false)
  | none => true
theorem iv_fz_all : (List.range 106).all iv_fzB = true := by decide +kernel
theorem xm_I_lt {q : Nat} {ro : y_R1} {S : Nat → Nat} (h : xm_I q = some (ro, S)) : 60 ≤ q ∧ q ≤ 105 := by
  unfold xm_I at h
  obtain ⟨h1, -⟩ := s_bif h
  rw [Bool.and_eq_true, Nat.ble_eq, Nat.ble_eq] at h1
  exact h1
theorem iv_fz {q : Nat} {ro : y_R1} {S : Nat → Nat} (h : xm_I q = some (ro, S)) : ∃ r ro', iv_rl[q]? = some r ∧ y_Rc.1[r]? = some ro' ∧ ro'.1 = ro.1 ∧ ro'.2.1 = ro.2.1 ∧ ro'.2.2.1 = ro.2.2.1 ∧ ro'.2.2.2.2 = [] := by
  have hq := xm_I_lt h
  have h1 := List.all_eq_true.mp iv_fz_all q (List.mem_range.mpr (by omega))
  unfold iv_fzB at h1
  rw [h] at h1
  simp only at h1
  split at h1
  next r e1 =>
    split at h1
    next ro' e2 =>
      simp only [Bool.and_eq_true, decide_eq_true_eq, Nat.beq_eq, List.isEmpty_iff] at h1
      exact ⟨r, ro', e1, e2, h1.1, h1.2.1, h1.2.2.1, h1.2.2.2⟩
    next => cases h1
  next => cases h1
theorem y_g_no {W : y_W} {β : Nat → Int} {ro : y_R1} {j : Nat} {x : Value} (h0 : ro.2.2.2.2 = []) (h : y_g W β (y_spj β ro j) x) : False := by
  have e : y_spj β ro j = y_no := by
    unfold y_spj y_sp
    rw [h0]
    split
    · split <;> rfl
    · rfl
  rw [e] at h
  exact h
theorem iv_mod_k {A : Nat → Nat} {W W' : y_W} {β β' : Nat → Int} {h h' : g_H} {M : xa_M} (hM : xa_H xm_I A M h h) (hW' : iv_W A W') (hH' : y_H (iv_ct h) y_Rc W' β' h') : xa_H xm_I A M h' h' := by
  refine ⟨rfl, fun q ro S hq => ?_, fun _ _ => rfl⟩
  obtain ⟨r, ro', e1, e2, e3, e4, e5, e6⟩ := iv_fz hq
  obtain ⟨ro2, f', g1, g2, g3⟩ := hH'.2.1 q (A q) r (hW' q r e1)
  rw [e2] at g1
  cases g1
  obtain ⟨f, k1, k2⟩ := hM.2.1 q ro S hq
  rw [e3, e4, e5] at g2
  refine ⟨f', g2, fun j hj => ?_⟩
  have hj' : j < ro'.2.2.1 := by
    rw [e5]
    exact hj
  rcases g3 j hj' with g | g
  · have hc : iv_ct h q j = f j := by
      unfold iv_ct
      rw [k1]
    rw [g.2, hc]
    exact k2 j hj
  · exact (y_g_no e6 g.1).elim
theorem iv_call {d j : Nat} {K : y_Call} (hK : y_CS y_Rc K (g_run d)) {vs : List y_V} (hs : (K j vs []).isSome = true) {A : Nat → Nat} {h : g_H} (hI : iv_inv A h) {xs : List Value} (hx : ∀ (W : y_W) (β : Nat → Int), iv_W A W → y_gA W β vs xs) : g_run d j xs h 0 0 (fun _ h' => iv_inv A h') := by
  obtain ⟨outs, e⟩ := Option.isSome_iff_exists.mp hs
  obtain ⟨⟨W, β, hH, hW⟩, M, hM, hInv⟩ := hI
  refine hK j vs [] outs e (iv_ct h) W β h xs hH (hx W β hW) (fun q hq => by cases hq) _ (fun out _ W' β' h' x hWW _ _ hH' _ _ _ => ?_)
  have hW' : iv_W A W' := fun q r hr => by
    have h1 := hW q r hr
    obtain ⟨t, rfl⟩ := hWW
    rw [List.getElem?_append_left (List.getElem?_eq_some_iff.mp h1).1]
    exact h1
  exact ⟨⟨W', β', y_H_ct hH', hW'⟩, M, iv_mod_k (W := W) (β := β) hM hW' hH', hInv⟩
-- a call of the model leaves the class as it is
theorem xm_I_none {q : Nat} (h : ¬ (60 ≤ q ∧ q ≤ 105)) : xm_I q = none := by
  cases e : xm_I q with
  | none => rfl
  | some p => exact absurd (xm_I_lt (ro := p.1) (S := p.2) e) h
theorem iv_cls_k {A : Nat → Nat} {h h' : g_H} {M' : xa_M} (hC : iv_cls A h) (hM' : xa_H xm_I A M' h h') : iv_cls A h' := by
  obtain ⟨W, β, hH, hW⟩ := hC
  obtain ⟨l1, l2, l3⟩ := hM'
  refine ⟨W, β, ⟨by rw [l1]; exact hH.1, fun q a r hq => ?_, fun p hp => ?_⟩, hW⟩
  · obtain ⟨ro, f, g1, g2, g3⟩ := hH.2.1 q a r hq
    cases e : xm_I q with
    | none =>
      have e2 := l3 q e
      refine ⟨ro, f, g1, by rw [e2]; exact g2, fun j hj => ?_⟩
      rcases g3 j hj with g | g
      · refine Or.inl ⟨g.1, ?_⟩
        unfold iv_ct
        rw [e2, g2]
      · exact Or.inr ⟨g.1, fun h => (y_Rc_no g1 h).elim⟩
    | some p =>
      obtain ⟨ro2, S⟩ := p
      obtain ⟨r2, ro', e1, e2, e3, e4, e5, e6⟩ := iv_fz e
      have hw := hW q r2 e1
      rw [hq] at hw
      cases hw
      rw [e2] at g1
      cases g1
      obtain ⟨f', k1, k2⟩ := l2 q ro2 S e
      refine ⟨_, f', e2, by rw [e3, e4, e5]; exact k1, fun j hj => Or.inl ⟨e6, ?_⟩⟩
      unfold iv_ct
      rw [k1]
  · obtain ⟨u1, q, a, ro, f, n, v1, v2, v3, v4, v5⟩ := hH.2.2 p hp
    refine ⟨u1, q, a, ro, f, n, v1, v2, ?_, v4, v5⟩
    have hp' : p = (300001, 8, 5) := by
      have : p ∈ [(300001, 8, 5)] := hp
      simpa using this
    subst hp'
    have hw := hW 38 8 rfl
    have : q = 38 := u1 q 38 a (A 38) v1 hw
    subst this
    rw [l3 38 (xm_I_none (by decide))]
    exact v3
theorem iv_callM {d j : Nat} {A : Nat → Nat} {h : g_H} (hI : iv_inv A h) {vs : List xa_V} {xs : List Value} (hx : xa_gS A vs xs) (hC : ∀ M : xa_M, xm_Inv M → xa_C xm_I A h d j vs M (fun _ M1 => xm_Inv M1)) : g_run d j xs h 0 0 (fun _ h' => iv_inv A h') := by
  obtain ⟨hcl, M, hM, hInv⟩ := hI
  refine hC M hInv h xs hM hx _ (fun v M' x h' hv _ hM' => ?_)
  refine ⟨iv_cls_k hcl hM', M', ⟨rfl, hM'.2.1, fun _ _ => rfl⟩, hv⟩
