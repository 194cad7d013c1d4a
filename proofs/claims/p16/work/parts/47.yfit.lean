-- joined: 47.yfit, 48.ycal, 49.yloop, 50.ybody, 51.yroles, 52.yann, 54.yrok, 55.xa
section
-- loops: a state that fits what holds at the head
section Y7
variable {φ : Nat → Nat → Value} {R : y_R} {W : y_W} {β : Nat → Int} {L inv : y_L} {Ls : g_L} {ms : List (Nat × Nat)} {a : y_A} {P : g_S → Prop}
theorem y_wit (hL : y_gL W β L Ls) : ∃ f : Nat → Value, ∀ key v, y_find L key = some v → y_at β Ls key (f key) ∧ y_g W β v (f key) := by
  have h : ∀ key, ∃ x, ∀ v, y_find L key = some v → y_at β Ls key x ∧ y_g W β v x := fun key => by
    cases e : y_find L key with
    | none => exact ⟨.null, fun v h => by cases h⟩
    | some v =>
      obtain ⟨x, h1, h2⟩ := hL _ (y_find_in e)
      exact ⟨x, fun v' h => by cases h; exact ⟨h1, h2⟩⟩
  exact ⟨fun key => (h key).choose, fun key => (h key).choose_spec⟩
def y_vn : Value → Int
  | .int n => n.toInt
  | .long n => n.toInt
  | _ => 0
theorem y_num_g {v : y_V} (hk : v.1 < 2) {x : Value} (h : y_g W β v x) : y_num β v (y_vn x) := by
  obtain ⟨t, lo, hi, r⟩ := v
  match t, hk, h with
  | 0, _, ⟨n, e, b1, b2, b3⟩ => subst e; exact ⟨b1, b2, b3⟩
  | 1, _, ⟨n, e, b1, b2, b3⟩ => subst e; exact ⟨b1, b2, b3⟩
theorem y_num_i {v w : y_V} (hk : v.1 < 2) (hw : w.1 = v.1) {x : Value} (h : y_g W β v x) {β' : Nat → Int} (hn : y_num β' w (y_vn x)) : y_g W β' w x := by
  obtain ⟨t, lo, hi, r⟩ := v
  obtain ⟨t', lo', hi', r'⟩ := w
  have hw' : t' = t := hw
  subst hw'
  match t', hk, h with
  | 0, _, ⟨n, e, _, _, _⟩ => subst e; exact ⟨n, rfl, hn.1, hn.2.1, hn.2.2⟩
  | 1, _, ⟨n, e, _, _, _⟩ => subst e; exact ⟨n, rfl, hn.1, hn.2.1, hn.2.2⟩
/-- the numbers that the loop's names stand for at the head -/
def y_new (β : Nat → Int) (f : Nat → Value) (ms : List (Nat × Nat)) : Nat → Int := fun k => match y_mk ms k with
  | some l => y_vn (f l)
  | none => β k
theorem y_mk_in {k l : Nat} : ∀ {ms : List (Nat × Nat)}, y_mk ms k = some l → (l, k) ∈ ms
  | [], h => by cases h
  | (l', i) :: t, h => by
    rw [y_mk] at h
    cases e : Nat.beq i k
    · rw [e, cond_false] at h
      exact List.mem_cons_of_mem _ (y_mk_in h)
    · rw [e, cond_true] at h
      cases h
      rw [Nat.beq_eq] at e
      subst e
      exact List.mem_cons_self
theorem y_new_none {f : Nat → Value} {k : Nat} (h : y_mk ms k = none) : y_new β f ms k = β k := by
  unfold y_new
  rw [h]
theorem y_new_some {f : Nat → Value} {k l : Nat} (h : y_mk ms k = some l) : y_new β f ms k = y_vn (f l) := by
  unfold y_new
  rw [h]
theorem y_new_out {f : Nat → Value} {i k : Nat} (hm : ∀ m ∈ ms, i ≤ m.2 ∧ m.2 < 100000) (h : k < i ∨ 100000 ≤ k) : y_new β f ms k = β k := by
  cases e : y_mk ms k with
  | none => exact y_new_none e
  | some l =>
    have := hm _ (y_mk_in e)
    have h1 : i ≤ k := this.1
    have h2 : k < 100000 := this.2
    omega
theorem y_deq_ok {v u : y_V} {c n m : Int} (h : y_deq v u c = true) (hv : y_num β v n) (hu : y_num β u m) : n = m + c := by
  unfold y_deq at h
  rw [Bool.or_eq_true] at h
  rcases h with h | h
  · simp only [Bool.and_eq_true, Bool.not_eq_true', decide_eq_true_eq] at h
    obtain ⟨h1, h2, h3⟩ := h
    have k1 := y_beq_ne h1
    rw [Nat.beq_eq] at h2
    have p1 := hv.2.2.1 k1
    have p2 := hu.2.2.1 (by rw [← h2]; exact k1)
    rw [← h2] at p2
    omega
  · simp only [Bool.and_eq_true, decide_eq_true_eq] at h
    have a1 := hv.1
    have a2 := hv.2.1
    have b1 := hu.1
    have b2 := hu.2.1
    omega
theorem y_dle_ok {v u : y_V} {c n m : Int} (h : y_dle v u c = true) (hv : y_num β v n) (hu : y_num β u m) : n ≤ m + c := by
  unfold y_dle at h
  rw [Bool.or_eq_true, Bool.or_eq_true] at h
  rcases h with h | h | h
  · simp only [Bool.and_eq_true, Bool.not_eq_true', decide_eq_true_eq] at h
    obtain ⟨h1, h2, h3⟩ := h
    have k1 := y_beq_ne h1
    rw [Nat.beq_eq] at h2
    have p1 := hv.2.2.1 k1
    have p2 := hu.2.2.1 (by rw [← h2]; exact k1)
    rw [← h2] at p2
    omega
  · simp only [Bool.and_eq_true, Bool.not_eq_true', decide_eq_true_eq] at h
    obtain ⟨h1, h2, h3⟩ := h
    have k1 := y_beq_ne h1
    rw [Nat.beq_eq] at h2
    have p1 := hv.2.2.2 k1
    have p2 := hu.2.2.1 (by rw [← h2]; exact k1)
    rw [← h2] at p2
    omega
  · rw [decide_eq_true_eq] at h
    have a2 := hv.2.1
    have b1 := hu.1
    omega
theorem y_fit_ok {f : Nat → Value} (hf : ∀ key v, y_find L key = some v → y_at β Ls key (f key) ∧ y_g W β v (f key)) (h : y_fit ms inv L = true) (hm : ∀ m ∈ ms, m.2 < 200000) : y_gL W (y_new β f ms) inv Ls := by
  unfold y_fit at h
  rw [Bool.and_eq_true, List.all_eq_true, List.all_eq_true] at h
  obtain ⟨hI, h⟩ := h
  have hmk : ∀ {k l : Nat}, y_mk ms k = some l → ∃ u, y_find L l = some u ∧ y_num β u (y_vn (f l)) ∧ y_new β f ms k = y_vn (f l) := by
    intro k l e
    have h1 := hI _ (y_mk_in e)
    unfold y_isI0 at h1
    split at h1
    next u eu =>
      rw [Nat.blt_eq] at h1
      exact ⟨u, eu, y_num_g h1 (hf _ _ eu).2, y_new_some e⟩
    next => cases h1
  intro q hq
  have h1 := h q hq
  unfold y_fit1 at h1
  split at h1
  next v ev =>
    obtain ⟨hx, hg⟩ := hf _ _ ev
    refine ⟨f q.1, ⟨hx.1, fun h0 => ?_⟩, ?_⟩
    · have e9 : y_new β f ms q.1 = β q.1 := by
        cases e : y_mk ms q.1 with
        | none => exact y_new_none e
        | some l =>
          have : q.1 < 200000 := hm _ (y_mk_in e)
          omega
      rw [e9]
      exact hx.2 h0
    · obtain ⟨key, t, lo, hi, k, c, k2, c2⟩ := q
      dsimp only at h1 ev hx hg ⊢
      cases e0 : Nat.blt t 2
      · rw [e0, cond_false] at h1
        have hy := y_le_ok h1 hg
        match t, e0, hy with
        | 2, _, hy => exact hy
        | 3, _, hy => exact hy
        | 4, _, hy => exact hy
      · rw [e0, cond_true] at h1
        simp only [Bool.and_eq_true, decide_eq_true_eq, Nat.beq_eq] at h1
        rw [Nat.blt_eq] at e0
        obtain ⟨a1, a2, a3, a4, a5⟩ := h1
        have hn := y_num_g (by rw [a1]; exact e0) hg
        have b1 := hn.1
        have b2 := hn.2.1
        refine y_num_i (v := v) (by rw [a1]; exact e0) a1.symm hg ⟨by show lo ≤ _; omega, by show _ ≤ hi; omega, fun h0 => ?_, fun h0 => ?_⟩
        · have h0' : k ≠ 0 := h0
          unfold y_fe at a4
          have hk : Nat.beq k 0 = false := by
            cases e : Nat.beq k 0
            · rfl
            · exact absurd (Nat.beq_eq.mp e) h0'
          rw [hk, cond_false] at a4
          show y_vn (f key) = y_new β f ms k + c
          split at a4
          next l el =>
            obtain ⟨u, eu, hu, e5⟩ := hmk el
            rw [e5]
            rw [Bool.or_eq_true] at a4
            rcases a4 with a4 | a4
            · rw [Bool.and_eq_true, Nat.beq_eq, decide_eq_true_eq] at a4
              obtain ⟨rfl, rfl⟩ := a4
              omega
            · rw [eu] at a4
              exact y_deq_ok a4 hn hu
          next el =>
            rw [y_new_none el]
            rw [Bool.and_eq_true, Nat.beq_eq, decide_eq_true_eq] at a4
            have := hn.2.2.1 (by rw [a4.1]; exact h0')
            rw [a4.1, a4.2] at this
            exact this
        · have h0' : k2 ≠ 0 := h0
          unfold y_fu at a5
          have hk : Nat.beq k2 0 = false := by
            cases e : Nat.beq k2 0
            · rfl
            · exact absurd (Nat.beq_eq.mp e) h0'
          rw [hk, cond_false] at a5
          show y_vn (f key) ≤ y_new β f ms k2 + c2
          split at a5
          next l el =>
            obtain ⟨u, eu, hu, e5⟩ := hmk el
            rw [e5]
            rw [Bool.or_eq_true] at a5
            rcases a5 with a5 | a5
            · rw [Bool.and_eq_true, Nat.beq_eq, decide_eq_true_eq] at a5
              obtain ⟨rfl, h5⟩ := a5
              omega
            · rw [eu] at a5
              exact y_dle_ok a5 hn hu
          next el =>
            rw [y_new_none el]
            rw [Bool.or_eq_true] at a5
            rcases a5 with a5 | a5
            · rw [Bool.and_eq_true, Nat.beq_eq, decide_eq_true_eq] at a5
              have := hn.2.2.2 (by rw [a5.1]; exact h0')
              rw [a5.1] at this
              omega
            · rw [Bool.and_eq_true, Nat.beq_eq, decide_eq_true_eq] at a5
              have := hn.2.2.1 (by rw [a5.1]; exact h0')
              rw [a5.1] at this
              omega
  next => cases h1
/-- a loop's annotation is right -/
def y_Aok (a : y_A) : Prop := 0 < a.2.2.1 ∧ (∀ m ∈ a.2.2.2.1, a.2.2.1 ≤ m.2 ∧ m.2 < 100000) ∧ ∃ l v, y_ctr a = some (l, v)
theorem y_ctr_eq {l : Nat} {v : y_V} (h : y_ctr a = some (l, v)) : y_mk a.2.2.2.1 a.2.2.1 = some l ∧ y_find a.2.2.2.2 l = some v ∧ v.1 < 2 ∧ v.2.2.2.1 = a.2.2.1 ∧ v.2.2.2.2.1 = 0 := by
  unfold y_ctr at h
  split at h
  next pc up i l' i' t inv =>
    split at h
    next w ew =>
      obtain ⟨h1, h2⟩ := s_bif h
      cases h2
      simp only [Bool.and_eq_true, Nat.beq_eq, Nat.blt_eq, decide_eq_true_eq] at h1
      obtain ⟨rfl, h3, h4, h5⟩ := h1
      refine ⟨?_, ew, h3, h4, h5⟩
      show y_mk ((l, i) :: t) i = some l
      rw [y_mk, show Nat.beq i i = true from Nat.beq_eq.mpr rfl]
      rfl
    next => cases h
  next => cases h
/-- the bounds of the counter -/
theorem y_ctr_ok {l : Nat} {v : y_V} (h : y_ctr a = some (l, v)) (h0 : 0 < a.2.2.1) (hL : y_gL W β a.2.2.2.2 Ls) : v.2.1 ≤ β a.2.2.1 ∧ β a.2.2.1 ≤ v.2.2.1 := by
  obtain ⟨-, h2, h3, h4, h5⟩ := y_ctr_eq h
  obtain ⟨x, -, hg⟩ := hL _ (y_find_in h2)
  obtain ⟨b1, b2, b3⟩ := y_num_g h3 hg
  have := b3.1 (by rw [h4]; omega)
  rw [h4, h5] at this
  omega
/-- what holds where the loop goes on -/
def y_pgs (a : y_A) (x y : Int) : Prop := if a.2.1 = true then x < y else y < x
def y_act (φ : Nat → Nat → Value) (R : y_R) (P : g_S → Prop) (W : y_W) (β : Nat → Int) (a : y_A) : Prop := ∀ (W' : y_W) (β' : Nat → Int) (h' : g_H) (Ls' : g_L), W <+: W' → (∀ k, (k < a.2.2.1 ∨ (100000 ≤ k ∧ k < 300000)) → β' k = β k) → y_H φ R W' β' h' → y_gL W' β' a.2.2.2.2 Ls' → y_pgs a (β a.2.2.1) (β' a.2.2.1) → P (a.1, Ls', [], 0, 0, h')
theorem y_act_mono {W1 : y_W} {β1 : Nat → Int} (hW : W <+: W1) (hb : ∀ k, (k ≤ a.2.2.1 ∨ (100000 ≤ k ∧ k < 300000)) → β1 k = β k) (h : y_act φ R P W β a) : y_act φ R P W1 β1 a := by
  intro W' β' h' Ls' hW' hb' hH hL hp
  refine h W' β' h' Ls' (hW.trans hW') (fun k hk => ?_) hH hL ?_
  · rw [hb' k hk]
    exact hb k (by omega)
  · rw [← hb a.2.2.1 (Or.inl (Nat.le_refl _))]
    exact hp
theorem y_back_ok (ha : y_Aok a) (h : y_back a L = true) (hL : y_gL W β L Ls) : ∃ β', (∀ k, (k < a.2.2.1 ∨ 100000 ≤ k) → β' k = β k) ∧ y_gL W β' a.2.2.2.2 Ls ∧ y_pgs a (β a.2.2.1) (β' a.2.2.1) := by
  obtain ⟨h0, hm, l, v, hc⟩ := ha
  unfold y_back at h
  rw [Bool.and_eq_true] at h
  obtain ⟨h1, h2⟩ := h
  obtain ⟨f, hf⟩ := y_wit hL
  refine ⟨y_new β f a.2.2.2.1, fun k hk => y_new_out hm hk, y_fit_ok hf h1 (fun m hm' => by have := (hm m hm').2; omega), ?_⟩
  obtain ⟨c1, -⟩ := y_ctr_eq hc
  rw [hc] at h2
  dsimp only at h2
  split at h2
  next u eu =>
    simp only [Bool.and_eq_true, Nat.beq_eq, Nat.blt_eq] at h2
    obtain ⟨h3, h4, h5⟩ := h2
    have hn := y_num_g h3 (hf _ _ eu).2
    rw [y_new_some c1]
    have := hn.2.2.1 (by rw [h4]; omega)
    rw [h4] at this
    unfold y_pgs
    show if a.2.1 = true then β a.2.2.1 < y_vn (f l) else y_vn (f l) < β a.2.2.1
    cases e : a.2.1
    · rw [e, cond_false, decide_eq_true_eq] at h5
      rw [if_neg (by decide)]
      omega
    · rw [e, cond_true, decide_eq_true_eq] at h5
      rw [if_pos rfl]
      omega
  next => cases h2
theorem y_ent_ok {G : List y_A} (h : y_ent a G L = true) (hL : y_gL W β L Ls) : y_Aok a ∧ (∀ g ∈ G, g.2.2.1 < a.2.2.1) ∧ ∃ β', (∀ k, (k < a.2.2.1 ∨ 100000 ≤ k) → β' k = β k) ∧ y_gL W β' a.2.2.2.2 Ls := by
  unfold y_ent at h
  simp only [Bool.and_eq_true, List.all_eq_true, Nat.blt_eq, Nat.ble_eq] at h
  obtain ⟨h1, h2, h3, h4, h5⟩ := h
  obtain ⟨f, hf⟩ := y_wit hL
  refine ⟨⟨h3, h4, ?_⟩, h5, y_new β f a.2.2.2.1, fun k hk => y_new_out h4 hk, y_fit_ok hf h1 (fun m hm' => by have := (h4 m hm').2; omega)⟩
  cases e : y_ctr a with
  | none => rw [e] at h2; cases h2
  | some p => exact ⟨p.1, p.2, rfl⟩
theorem y_ent_A {G : List y_A} (h : y_ent a G L = true) : y_Aok a := by
  unfold y_ent at h
  simp only [Bool.and_eq_true, List.all_eq_true, Nat.blt_eq, Nat.ble_eq] at h
  obtain ⟨h1, h2, h3, h4, h5⟩ := h
  refine ⟨h3, h4, ?_⟩
  cases e : y_ctr a with
  | none => rw [e] at h2; cases h2
  | some p => exact ⟨p.1, p.2, rfl⟩
end Y7
end
section
-- calls of the machine over kinds and bounds
def y_gA (W : y_W) (β : Nat → Int) : List y_V → List Value → Prop
  | [], [] => True
  | v :: vs, x :: xs => y_g W β v x ∧ y_gA W β vs xs
  | _, _ => False
def y_gR (W : y_W) (β : Nat → Int) (o : Option y_V) (x : Option Value) : Prop := match o with
  | none => x = none
  | some v => ∃ y, x = some y ∧ y_g W β v y
/-- calls are sound: what they tell holds, in a greater world, of names to 300000 that are the same -/
def y_CS (R : y_R) (K : y_Call) (CALL : Nat → List Value → g_H → Nat → Nat → (Option Value → g_H → Prop) → Prop) : Prop :=
  ∀ j vs N outs, K j vs N = some outs → ∀ (φ : Nat → Nat → Value) (W : y_W) (β : Nat → Int) (h : g_H) (xs : List Value), y_H φ R W β h → y_gA W β vs xs → y_gL W β N [] → ∀ post : Option Value → g_H → Prop, (∀ out ∈ outs, ∀ (W' : y_W) (β' : Nat → Int) (h' : g_H) (x : Option Value), W <+: W' → (∀ k, 200000 ≤ k → k < 300000 → β' k = β k) → (∀ k, 150000 ≤ k → k < 200000 → β' k = β (k + 150000)) → y_H φ R W' β' h' → y_gR W' β' out.1 x → y_gA W' β' out.2.1 xs → y_gL W' β' out.2.2 [] → post x h') → CALL j xs h 0 0 post
section Y8
variable {CALL : Nat → List Value → g_H → Nat → Nat → (Option Value → g_H → Prop) → Prop} {cc : ByteArray} {o nL : Nat} {ini : Bool} {bc bs : Nat} {P : g_S → Prop} {R : y_R} {W W' : y_W} {β β' : Nat → Int} {φ : Nat → Nat → Value}
variable {full t : List s_I} {L : y_L} {st : List y_T} {Ls : g_L} {sts : List Value} {h : g_H} {mi : List s_MI}
theorem y_glq_ok (hb : ∀ k, 200000 ≤ k → β' k = β k) {r : y_Q} {n : Int} (h : y_rl β r n) : y_rl β' (y_glq r) n := by
  obtain ⟨k, c, k2, c2⟩ := r
  refine ⟨fun h0 => ?_, fun h0 => ?_⟩
  · cases e : Nat.ble 200000 k
    · exact absurd (show (bif Nat.ble 200000 k then k else 0) = 0 by rw [e]; rfl) h0
    · show n = β' (bif Nat.ble 200000 k then k else 0) + c
      rw [e, cond_true, hb k (Nat.le_of_ble_eq_true e)]
      exact h.1 (by have := Nat.le_of_ble_eq_true e; show k ≠ 0; omega)
  · cases e : Nat.ble 200000 k2
    · exact absurd (show (bif Nat.ble 200000 k2 then k2 else 0) = 0 by rw [e]; rfl) h0
    · show n ≤ β' (bif Nat.ble 200000 k2 then k2 else 0) + c2
      rw [e, cond_true, hb k2 (Nat.le_of_ble_eq_true e)]
      exact h.2 (by have := Nat.le_of_ble_eq_true e; show k2 ≠ 0; omega)
theorem y_loq_ok (hb : ∀ k, k < 300000 → β' k = β k) {r : y_Q} {n : Int} (h : y_rl β r n) : y_rl β' (y_loq r) n := by
  obtain ⟨k, c, k2, c2⟩ := r
  refine ⟨fun h0 => ?_, fun h0 => ?_⟩
  · cases e : Nat.ble 300000 k
    · have hk : k < 300000 := Nat.lt_of_not_le (fun h => by rw [Nat.ble_eq_true_of_le h] at e; cases e)
      have h0' : (bif Nat.ble 300000 k then 0 else k) ≠ 0 := h0
      rw [e, cond_false] at h0'
      show n = β' (bif Nat.ble 300000 k then 0 else k) + c
      rw [e, cond_false, hb k hk]
      exact h.1 h0'
    · exact absurd (show (bif Nat.ble 300000 k then 0 else k) = 0 by rw [e]; rfl) h0
  · cases e : Nat.ble 300000 k2
    · have hk : k2 < 300000 := Nat.lt_of_not_le (fun h => by rw [Nat.ble_eq_true_of_le h] at e; cases e)
      have h0' : (bif Nat.ble 300000 k2 then 0 else k2) ≠ 0 := h0
      rw [e, cond_false] at h0'
      show n ≤ β' (bif Nat.ble 300000 k2 then 0 else k2) + c2
      rw [e, cond_false, hb k2 hk]
      exact h.2 h0'
    · exact absurd (show (bif Nat.ble 300000 k2 then 0 else k2) = 0 by rw [e]; rfl) h0
theorem y_mq_ok {f : y_Q → y_Q} (hf : ∀ r n, y_rl β r n → y_rl β' (f r) n) {v : y_V} {x : Value} (h : y_g W β v x) : y_g W β' (y_mq f v) x := by
  obtain ⟨t, lo, hi, r⟩ := v
  match t, h with
  | 0, ⟨n, e, b1, b2, b3⟩ => exact ⟨n, e, b1, b2, hf _ _ b3⟩
  | 1, ⟨n, e, b1, b2, b3⟩ => exact ⟨n, e, b1, b2, hf _ _ b3⟩
  | 2, h => exact h
  | 3, h => exact h
  | 4, h => exact h
theorem y_mV_eq {α : Type} (f : y_Q → y_Q) : ∀ (l : List y_V) (k : List y_V → α), y_mV f l k = k (l.map (y_mq f))
  | [], _ => rfl
  | v :: t, k => by rw [y_mV, y_fv_eq, y_mV_eq f t]; rfl
def y_nmsL (L : y_L) : y_L := (L.filter (fun q => Nat.ble 200000 q.1)).map (fun q => (q.1, y_mq y_glq q.2))
theorem y_nms_eq {α : Type} : ∀ (l : y_L) (k : y_L → α), y_nms l k = k (y_nmsL l)
  | [], _ => rfl
  | (j, v) :: t, k => by
    rw [y_nms]
    unfold y_nmsL
    rw [List.filter_cons]
    cases e : Nat.ble 200000 j
    · simp only [cond_false, y_nms_eq t, Bool.false_eq_true, if_false]
      rfl
    · simp only [cond_true, y_fv_eq, y_nms_eq t, if_true, List.map_cons]
      rfl
theorem y_glm_ok {r : y_Q} {n : Int} (h : y_rl β r n) : y_rl β (y_glm r) n := by
  obtain ⟨k, c, k2, c2⟩ := r
  refine ⟨fun h0 => ?_, fun h0 => ?_⟩
  · cases e : Nat.ble 150000 k
    · exact absurd (show (bif Nat.ble 150000 k then k else 0) = 0 by rw [e]; rfl) h0
    · show n = β (bif Nat.ble 150000 k then k else 0) + c
      rw [e, cond_true]
      exact h.1 (by have := Nat.le_of_ble_eq_true e; show k ≠ 0; omega)
  · cases e : Nat.ble 150000 k2
    · exact absurd (show (bif Nat.ble 150000 k2 then k2 else 0) = 0 by rw [e]; rfl) h0
    · show n ≤ β (bif Nat.ble 150000 k2 then k2 else 0) + c2
      rw [e, cond_true]
      exact h.2 (by have := Nat.le_of_ble_eq_true e; show k2 ≠ 0; omega)
def y_nmoL (L : y_L) : y_L := (L.filter (fun q => Nat.ble 200000 q.1)).map (fun q => (q.1, y_mq y_glm q.2))
theorem y_nmo_eq {α : Type} : ∀ (l : y_L) (k : y_L → α), y_nmo l k = k (y_nmoL l)
  | [], _ => rfl
  | (j, v) :: t, k => by
    rw [y_nmo]
    unfold y_nmoL
    rw [List.filter_cons]
    cases e : Nat.ble 200000 j
    · simp only [cond_false, y_nmo_eq t, Bool.false_eq_true, if_false]
      rfl
    · simp only [cond_true, y_fv_eq, y_nmo_eq t, if_true, List.map_cons]
      rfl
theorem y_nmoL_ok {Ls' : g_L} (hL : y_gL W β L Ls) : y_gL W β (y_nmoL L) Ls' := by
  intro q hq
  obtain ⟨p, hp, rfl⟩ := List.mem_map.mp hq
  obtain ⟨hp1, hp2⟩ := List.mem_filter.mp hp
  have hp3 : 200000 ≤ p.1 := Nat.le_of_ble_eq_true hp2
  obtain ⟨x, hx, hg⟩ := hL p hp1
  exact ⟨x, ⟨fun h0 => absurd hp3 (Nat.not_le.mpr h0), fun h0 => hx.2 hp3⟩, y_mq_ok (fun r n => y_glm_ok) hg⟩
def y_enL (L : y_L) : y_L := L.map (fun q => (q.1, y_en1 q.1 q.2))
theorem y_en_eq {α : Type} : ∀ (l : y_L) (k : y_L → α), y_en l k = k (y_enL l)
  | [], _ => rfl
  | (j, v) :: t, k => by rw [y_en, y_fv_eq, y_en_eq t]; rfl
theorem y_enL_ok (hb : ∀ k, 300000 ≤ k → k < 350000 → β (k - 150000) = β k) (hL : y_gL W β L Ls) : y_gL W β (y_enL L) Ls := by
  intro q hq
  obtain ⟨p, hp, rfl⟩ := List.mem_map.mp hq
  obtain ⟨x, hx, hg⟩ := hL p hp
  refine ⟨x, hx, ?_⟩
  show y_g W β (y_en1 p.1 p.2) x
  unfold y_en1
  cases e : (Nat.beq p.2.1 0 && (Nat.ble 300000 p.1 && Nat.blt p.1 350000))
  · exact hg
  · obtain ⟨ea, eb⟩ := (Bool.and_eq_true _ _).mp e
    rw [Bool.and_eq_true, Nat.ble_eq, Nat.blt_eq] at eb
    obtain ⟨n, rfl, b1, b2, b3⟩ := y_isI_g ea hg
    obtain ⟨m, em, hm⟩ := hx.2 (by omega)
    cases em
    exact ⟨n, rfl, b1, b2, fun _ => by show n.toInt = β (p.1 - 150000) + 0; rw [hb _ eb.1 eb.2]; omega, b3.2⟩
def y_nmrL (L M : y_L) : y_L := (M.filter (fun q => Nat.ble 200000 q.1)).map (fun q => (q.1, y_mq y_glq (y_red L q.2)))
theorem y_nmr_eq {α : Type} (L : y_L) : ∀ (l : y_L) (k : y_L → α), y_nmr L l k = k (y_nmrL L l)
  | [], _ => rfl
  | (j, v) :: t, k => by
    rw [y_nmr]
    unfold y_nmrL
    rw [List.filter_cons]
    cases e : Nat.ble 200000 j
    · simp only [cond_false, y_nmr_eq L t, Bool.false_eq_true, if_false]
      rfl
    · simp only [cond_true, y_fv_eq, y_nmr_eq L t, if_true, List.map_cons]
      rfl
theorem y_nmrL_ok {Ls' : g_L} (hL : y_gL W β L Ls) : y_gL W β (y_nmrL L L) Ls' := by
  intro q hq
  obtain ⟨p, hp, rfl⟩ := List.mem_map.mp hq
  obtain ⟨hp1, hp2⟩ := List.mem_filter.mp hp
  have hp3 : 200000 ≤ p.1 := Nat.le_of_ble_eq_true hp2
  obtain ⟨x, hx, hg⟩ := hL p hp1
  exact ⟨x, ⟨fun h0 => absurd hp3 (Nat.not_le.mpr h0), fun h0 => hx.2 hp3⟩, y_mq_ok (fun r n => y_glq_ok (fun _ _ => rfl)) (y_red_ok hL hg)⟩
def y_trL (L N : y_L) : y_L := (N.filter (fun q => Nat.ble 200000 q.1 && Nat.beq q.2.1 0)).map (fun q => (q.1, y_tr1 L q.2))
theorem y_tr_eq {α : Type} (L : y_L) : ∀ (l : y_L) (k : y_L → α), y_tr L l k = k (y_trL L l)
  | [], _ => rfl
  | (j, v) :: t, k => by
    rw [y_tr]
    unfold y_trL
    rw [List.filter_cons]
    cases e : (Nat.ble 200000 j && Nat.beq v.1 0)
    · simp only [cond_false, y_tr_eq L t, Bool.false_eq_true, if_false]
      rfl
    · simp only [cond_true, y_fv_eq, y_tr_eq L t, if_true, List.map_cons]
      rfl
section Y8T
variable {β2 : Nat → Int}
theorem y_tre_ok (hg : ∀ k, 200000 ≤ k → β2 k = β' k) (hl : ∀ k, k < 300000 → β2 k = β k) (hM : ∀ k, 150000 ≤ k → k < 200000 → β' k = β (k + 150000)) (hL : y_gL W β L Ls) {k : Nat} {c n : Int} (h : k ≠ 0 → n = β' k + c) : (y_tre L k c).1 ≠ 0 → n = β2 (y_tre L k c).1 + (y_tre L k c).2 := by
  unfold y_tre
  cases e1 : Nat.ble 200000 k
  · rw [cond_false]
    have k2 : k < 200000 := Nat.lt_of_not_le (fun h => by rw [Nat.ble_eq_true_of_le h] at e1; cases e1)
    cases e2 : Nat.ble 150000 k
    · intro h0
      exact absurd rfl h0
    · rw [cond_true]
      have k1 := Nat.le_of_ble_eq_true e2
      split
      next u eu =>
        cases e3 : (Nat.beq u.1 0 && Nat.blt u.2.2.2.1 300000)
        · intro h0
          exact absurd rfl h0
        · rw [cond_true]
          intro h0
          obtain ⟨ea, eb⟩ := (Bool.and_eq_true _ _).mp e3
          rw [Nat.blt_eq] at eb
          obtain ⟨x, hx, hgx⟩ := hL _ (y_find_in eu)
          obtain ⟨m, rfl, b1, b2, b3⟩ := y_isI_g ea hgx
          obtain ⟨m', em, hm⟩ := hx.2 (by show 200000 ≤ k + 150000; omega)
          cases em
          have p1 := h (by omega)
          rw [hM k k1 k2] at p1
          have p2 := b3.1 h0
          have hm' : m.toInt = β (k + 150000) := hm
          show n = β2 u.2.2.2.1 + (u.2.2.2.2.1 + c)
          rw [hl _ eb]
          omega
      next =>
        intro h0
        exact absurd rfl h0
  · rw [cond_true]
    intro h0
    show n = β2 k + c
    rw [hg k (Nat.le_of_ble_eq_true e1)]
    exact h h0
theorem y_tru_ok (hg : ∀ k, 200000 ≤ k → β2 k = β' k) (hl : ∀ k, k < 300000 → β2 k = β k) (hM : ∀ k, 150000 ≤ k → k < 200000 → β' k = β (k + 150000)) (hL : y_gL W β L Ls) {k : Nat} {c n : Int} (h : k ≠ 0 → n ≤ β' k + c) : (y_tru L k c).1 ≠ 0 → n ≤ β2 (y_tru L k c).1 + (y_tru L k c).2 := by
  unfold y_tru
  cases e1 : Nat.ble 200000 k
  · rw [cond_false]
    have k2 : k < 200000 := Nat.lt_of_not_le (fun h => by rw [Nat.ble_eq_true_of_le h] at e1; cases e1)
    cases e2 : Nat.ble 150000 k
    · intro h0
      exact absurd rfl h0
    · rw [cond_true]
      have k1 := Nat.le_of_ble_eq_true e2
      split
      next u eu =>
        cases e3 : Nat.beq u.1 0
        · intro h0
          exact absurd rfl h0
        · rw [cond_true]
          obtain ⟨x, hx, hgx⟩ := hL _ (y_find_in eu)
          obtain ⟨m, rfl, b1, b2, b3⟩ := y_isI_g e3 hgx
          obtain ⟨m', em, hm⟩ := hx.2 (by show 200000 ≤ k + 150000; omega)
          cases em
          have p1 := h (by omega)
          rw [hM k k1 k2] at p1
          have hm' : m.toInt = β (k + 150000) := hm
          cases e4 : (!Nat.beq u.2.2.2.2.2.1 0 && Nat.blt u.2.2.2.2.2.1 300000)
          · rw [cond_false]
            cases e5 : Nat.blt u.2.2.2.1 300000
            · intro h0
              exact absurd rfl h0
            · rw [cond_true]
              intro h0
              rw [Nat.blt_eq] at e5
              have p2 := b3.1 h0
              show n ≤ β2 u.2.2.2.1 + (u.2.2.2.2.1 + c)
              rw [hl _ e5]
              omega
          · rw [cond_true]
            intro h0
            obtain ⟨ea, eb⟩ := (Bool.and_eq_true _ _).mp e4
            rw [Nat.blt_eq] at eb
            have p2 := b3.2 h0
            show n ≤ β2 u.2.2.2.2.2.1 + (u.2.2.2.2.2.2 + c)
            rw [hl _ eb]
            omega
      next =>
        intro h0
        exact absurd rfl h0
  · rw [cond_true]
    intro h0
    show n ≤ β2 k + c
    rw [hg k (Nat.le_of_ble_eq_true e1)]
    exact h h0
theorem y_trL_ok (hg : ∀ k, 200000 ≤ k → β2 k = β' k) (hl : ∀ k, k < 300000 → β2 k = β k) (hM : ∀ k, 150000 ≤ k → k < 200000 → β' k = β (k + 150000)) (hL : y_gL W β L Ls) {N : y_L} (hN : y_gL W' β' N []) : y_gL W' β2 (y_trL L N) Ls := by
  intro q hq
  obtain ⟨p, hp, rfl⟩ := List.mem_map.mp hq
  obtain ⟨hp1, hp2⟩ := List.mem_filter.mp hp
  obtain ⟨ea, eb⟩ := (Bool.and_eq_true _ _).mp hp2
  have hp3 : 200000 ≤ p.1 := Nat.le_of_ble_eq_true ea
  obtain ⟨x, hx, hgx⟩ := hN p hp1
  refine ⟨x, ⟨fun h0 => absurd hp3 (Nat.not_le.mpr h0), fun h0 => ?_⟩, ?_⟩
  · show ∃ n : Int32, x = .int n ∧ n.toInt = β2 p.1
    rw [hg p.1 hp3]
    exact hx.2 hp3
  · obtain ⟨n, rfl, b1, b2, b3⟩ := y_isI_g eb hgx
    have t1 := y_tre_ok (k := p.2.2.2.2.1) (c := p.2.2.2.2.2.1) hg hl hM hL b3.1
    have t2 : (bif Nat.beq p.2.2.2.2.2.2.1 0 then y_tru L p.2.2.2.2.1 p.2.2.2.2.2.1 else y_tru L p.2.2.2.2.2.2.1 p.2.2.2.2.2.2.2).1 ≠ 0 → n.toInt ≤ β2 (bif Nat.beq p.2.2.2.2.2.2.1 0 then y_tru L p.2.2.2.2.1 p.2.2.2.2.2.1 else y_tru L p.2.2.2.2.2.2.1 p.2.2.2.2.2.2.2).1 + (bif Nat.beq p.2.2.2.2.2.2.1 0 then y_tru L p.2.2.2.2.1 p.2.2.2.2.2.1 else y_tru L p.2.2.2.2.2.2.1 p.2.2.2.2.2.2.2).2 := by
      cases Nat.beq p.2.2.2.2.2.2.1 0
      · exact y_tru_ok hg hl hM hL b3.2
      · exact y_tru_ok hg hl hM hL (fun h0 => by have := b3.1 h0; omega)
    exact ⟨n, rfl, b1, b2, t1, t2⟩
end Y8T
def y_aftL (L : y_L) : y_L := (L.filter (fun q => !(Nat.ble 200000 q.1))).map (fun q => (q.1, y_mq y_loq q.2))
theorem y_aft_eq {α : Type} : ∀ (l : y_L) (k : y_L → α), y_aft l k = k (y_aftL l)
  | [], _ => rfl
  | (j, v) :: t, k => by
    rw [y_aft]
    unfold y_aftL
    rw [List.filter_cons]
    cases e : Nat.ble 200000 j
    · simp only [cond_false, y_fv_eq, y_aft_eq t, Bool.not_false, if_true, List.map_cons]
      rfl
    · simp only [cond_true, y_aft_eq t, Bool.not_true, Bool.false_eq_true, if_false]
      rfl
def y_afSL (st : List y_T) : List y_T := st.map (fun t => (y_mq y_loq t.1, bif Nat.ble 300001 t.2 then 0 else t.2))
theorem y_afS_eq {α : Type} : ∀ (l : List y_T) (k : List y_T → α), y_afS l k = k (y_afSL l)
  | [], _ => rfl
  | (v, j) :: t, k => by rw [y_afS, y_fv_eq, y_afS_eq t]; rfl
def y_refL : List y_T → List y_V → y_L → y_L
  | t :: ts, o :: os, L => y_refL ts os (bif Nat.blt 0 t.2 && (Nat.ble t.2 300000 && (Nat.blt o.1 2 && Nat.beq o.1 t.1.1)) then L.map (fun q => if q.1 = t.2 - 1 then (q.1, y_ref1 t o) else q) else L)
  | _, _, L => L
theorem y_ref_eq {α : Type} : ∀ (ts : List y_T) (os : List y_V) (L : y_L) (k : y_L → α), y_ref ts os L k = k (y_refL ts os L)
  | [], _, _, _ => rfl
  | _ :: _, [], _, _ => rfl
  | t :: ts, o :: os, L, k => by
    rw [y_ref, y_refL]
    cases e : (Nat.blt 0 t.2 && (Nat.ble t.2 300000 && (Nat.blt o.1 2 && Nat.beq o.1 t.1.1)))
    · rw [cond_false, cond_false, y_ref_eq ts]
    · rw [cond_true, cond_true, y_fv_eq, y_upd_eq, y_ref_eq ts]
-- what they say
theorem y_at_lo (hb : ∀ k, k < 300000 → β' k = β k) {i : Nat} {x : Value} (hi : i < 300000) (h : y_at β Ls i x) : y_at β' Ls i x := ⟨h.1, fun h0 => by rw [hb i hi]; exact h.2 h0⟩
theorem y_nmsL_ok {Ls' : g_L} (hb : ∀ k, 200000 ≤ k → β' k = β k) (hL : y_gL W β L Ls) : y_gL W β' (y_nmsL L) Ls' := by
  intro q hq
  obtain ⟨p, hp, rfl⟩ := List.mem_map.mp hq
  obtain ⟨hp1, hp2⟩ := List.mem_filter.mp hp
  have hp3 : 200000 ≤ p.1 := Nat.le_of_ble_eq_true hp2
  obtain ⟨x, hx, hg⟩ := hL p hp1
  refine ⟨x, ⟨fun h0 => absurd hp3 (Nat.not_le.mpr h0), fun h0 => ?_⟩, y_mq_ok (fun r n => y_glq_ok hb) hg⟩
  show ∃ n : Int32, x = .int n ∧ n.toInt = β' p.1
  rw [hb p.1 hp3]
  exact hx.2 hp3
theorem y_aftL_ok (hb : ∀ k, k < 300000 → β' k = β k) (hL : y_gL W β L Ls) : y_gL W β' (y_aftL L) Ls := by
  intro q hq
  obtain ⟨p, hp, rfl⟩ := List.mem_map.mp hq
  obtain ⟨hp1, hp2⟩ := List.mem_filter.mp hp
  have hp3 : p.1 < 200000 := Nat.lt_of_not_le (fun h => by rw [Nat.ble_eq_true_of_le h] at hp2; cases hp2)
  obtain ⟨x, hx, hg⟩ := hL p hp1
  exact ⟨x, y_at_lo hb (by omega) hx, y_mq_ok (fun r n => y_loq_ok hb) hg⟩
theorem y_afSL_ok (hb : ∀ k, k < 300000 → β' k = β k) : ∀ {st : List y_T} {sts : List Value}, y_gS W β Ls st sts → y_gS W β' Ls (y_afSL st) sts
  | [], [], _ => trivial
  | [], _ :: _, h => h.elim
  | _ :: _, [], h => h.elim
  | t :: ts, x :: xs, h => by
    refine ⟨⟨y_mq_ok (fun r n => y_loq_ok hb) h.1.1, ?_⟩, y_afSL_ok hb h.2⟩
    show (bif Nat.ble 300001 t.2 then 0 else t.2) ≠ 0 → y_at β' Ls ((bif Nat.ble 300001 t.2 then 0 else t.2) - 1) x
    cases e : Nat.ble 300001 t.2
    · intro h0
      have h0' : t.2 ≠ 0 := h0
      have hk : t.2 < 300001 := Nat.lt_of_not_le (fun h => by rw [Nat.ble_eq_true_of_le h] at e; cases e)
      exact y_at_lo hb (by show t.2 - 1 < 300000; omega) (h.1.2 h0')
    · intro h0
      exact absurd rfl h0
theorem y_ref1_ok (hb : ∀ k, k < 300000 → β' k = β k) {t : y_T} {o : y_V} {x : Value} (ho : o.1 < 2) (hk : o.1 = t.1.1) (h1 : y_g W β t.1 x) (h2 : y_g W β' o x) : y_g W β' (y_ref1 t o) x := by
  obtain ⟨⟨k, lo, hi, r⟩, i⟩ := t
  obtain ⟨k', lo', hi', r'⟩ := o
  have hk' : k' = k := hk
  subst hk'
  have key : ∀ n : Int, y_rl β r n → y_rl β' r' n → y_rl β' (y_ref1 ((k', lo, hi, r), i) (k', lo', hi', r')).2.2.2 n := by
    intro n a b
    have a' := y_loq_ok hb a
    refine ⟨a'.1, ?_⟩
    have b' : (y_loq r').2.2.1 ≠ 0 → n ≤ β' (y_loq r').2.2.1 + (y_loq r').2.2.2 := by
      obtain ⟨k3, c3, k4, c4⟩ := r'
      intro h0
      cases e : Nat.ble 300000 k4
      · have h0' : (bif Nat.ble 300000 k4 then 0 else k4) ≠ 0 := h0
        rw [e, cond_false] at h0'
        show n ≤ β' (bif Nat.ble 300000 k4 then 0 else k4) + c4
        rw [e, cond_false]
        exact b.2 h0'
      · exact absurd (show (bif Nat.ble 300000 k4 then 0 else k4) = 0 by rw [e]; rfl) h0
    exact y_pick_ok (o := (y_loq r).2.2) (c := (y_loq r').2.2) a'.2 b'
  match k', ho, h1, h2, key with
  | 0, _, ⟨n, e, _, _, b3⟩, ⟨n', e', c1, c2, c3⟩, key =>
    rw [e] at e'
    cases e'
    exact ⟨n, e, c1, c2, key _ b3 c3⟩
  | 1, _, ⟨n, e, _, _, b3⟩, ⟨n', e', c1, c2, c3⟩, key =>
    rw [e] at e'
    cases e'
    exact ⟨n, e, c1, c2, key _ b3 c3⟩
theorem y_refL_ok (hW : W <+: W') (hb : ∀ k, k < 300000 → β' k = β k) : ∀ {ts : List y_T} {xs : List Value} {os : List y_V} {L : y_L}, y_gS W β Ls ts xs → y_gA W' β' os xs → y_gL W' β' L Ls → y_gL W' β' (y_refL ts os L) Ls
  | [], _, _, _, _, _, hL => hL
  | _ :: _, _, [], _, _, _, hL => hL
  | _ :: _, [], _ :: _, _, h, _, _ => h.elim
  | t :: ts, x :: xs, o :: os, L, hS, hA, hL => by
    rw [y_refL]
    refine y_refL_ok hW hb hS.2 hA.2 ?_
    cases e : (Nat.blt 0 t.2 && (Nat.ble t.2 300000 && (Nat.blt o.1 2 && Nat.beq o.1 t.1.1)))
    · exact hL
    · simp only [Bool.and_eq_true, Nat.blt_eq, Nat.ble_eq, Nat.beq_eq] at e
      obtain ⟨e1, e2, e3, e4⟩ := e
      exact y_gL_upd hL (y_at_lo hb (by omega) (hS.1.2 (by omega))) (y_ref1_ok hb e3 e4 (y_ext_g hW hS.1.1) hA.1)
theorem y_gS_app : ∀ {a b : List y_T} {sts : List Value}, y_gS W β Ls (a ++ b) sts → ∃ u v, sts = u ++ v ∧ u.length = a.length ∧ y_gS W β Ls a u ∧ y_gS W β Ls b v
  | [], b, sts, h => ⟨[], sts, rfl, rfl, trivial, h⟩
  | _ :: _, _, [], h => h.elim
  | t :: ts, b, x :: xs, h => by
    obtain ⟨u, v, e, hl, h1, h2⟩ := y_gS_app (a := ts) h.2
    exact ⟨x :: u, v, by rw [e]; rfl, by simp [hl], ⟨h.1, h1⟩, h2⟩
theorem y_gS_app2 : ∀ {a b : List y_T} {u v : List Value}, y_gS W β Ls a u → y_gS W β Ls b v → y_gS W β Ls (a ++ b) (u ++ v)
  | [], _, [], _, _, h => h
  | [], _, _ :: _, _, h, _ => h.elim
  | _ :: _, _, [], _, h, _ => h.elim
  | _ :: _, _, _ :: _, _, h, h2 => ⟨h.1, y_gS_app2 h.2 h2⟩
theorem y_gS_rev : ∀ {a : List y_T} {u : List Value}, y_gS W β Ls a u → y_gS W β Ls a.reverse u.reverse
  | [], [], _ => trivial
  | [], _ :: _, h => h.elim
  | _ :: _, [], h => h.elim
  | t :: ts, x :: xs, h => by
    rw [List.reverse_cons, List.reverse_cons]
    exact y_gS_app2 (y_gS_rev h.2) ⟨h.1, trivial⟩
theorem y_gS_gA (hb : ∀ k, 200000 ≤ k → β' k = β k) : ∀ {a : List y_T} {u : List Value}, y_gS W β Ls a u → y_gA W β' ((y_vs a).map (y_mq y_glq)) u
  | [], [], _ => trivial
  | [], _ :: _, h => h.elim
  | _ :: _, [], h => h.elim
  | t :: ts, x :: xs, h => ⟨y_mq_ok (fun r n => y_glq_ok hb) h.1.1, y_gS_gA hb h.2⟩
theorem y_gA_m {f : y_Q → y_Q} (hf : ∀ r n, y_rl β r n → y_rl β' (f r) n) : ∀ {a : List y_V} {u : List Value}, y_gA W β a u → y_gA W β' (a.map (y_mq f)) u
  | [], [], _ => trivial
  | [], _ :: _, h => h.elim
  | _ :: _, [], h => h.elim
  | v :: vs, x :: xs, h => ⟨y_mq_ok hf h.1, y_gA_m hf h.2⟩
theorem y_sum_g : ∀ {st : List y_T} {sts : List Value}, y_gS W β Ls st sts → g_sum sts = y_sum st
  | [], [], _ => rfl
  | [], _ :: _, h => h.elim
  | _ :: _, [], h => h.elim
  | t :: ts, x :: xs, h => by
    have e := y_sum_g h.2
    have hc := y_cat h.1.1
    show ((x :: xs).map fun v => v.category).sum = (bif y_c2 t.1 then 2 else 1) + y_sum ts
    rw [List.map_cons, List.sum_cons, hc, ← e]
    cases y_c2 t.1 <;> rfl
theorem y_tkn_eq : ∀ (n : Nat) (st acc as rest : List y_T), y_tkn n st acc = some (as, rest) → ∃ l, as = l.reverse ++ acc ∧ st = l ++ rest ∧ l.length = n
  | 0, st, acc, as, rest, h => by cases h; exact ⟨[], rfl, rfl, rfl⟩
  | n + 1, v :: st, acc, as, rest, h => by
    obtain ⟨l, h1, h2, h3⟩ := y_tkn_eq n st (v :: acc) as rest h
    exact ⟨v :: l, by rw [h1]; simp, by rw [h2]; rfl, by simp [h3]⟩
  | _ + 1, [], _, _, _, h => by cases h
end Y8
end
section
-- runs of the machine over kinds and bounds are the plain machine's
section Y9
variable {CALL : Nat → List Value → g_H → Nat → Nat → (Option Value → g_H → Prop) → Prop} {cc : ByteArray} {o nL : Nat} {ini : Bool} {bc bs : Nat} {P : g_S → Prop} {R : y_R} {K : y_Call} {mi : List s_MI} {ft : s_FT} {An : List y_B} {φ : Nat → Nat → Value}
variable {full t : List s_I} {st : List y_T}
theorem y_doE_ok (hcl : ∀ S, g_pre CALL o nL ini bc bs cc P S → P S) (hmi : s_miok mi) {pc len q kd a k : Nat} {v : Int} {ins : Instr} (hq : q = 34 ∨ q = 35) (hI : s_okI cc o (pc, len, q, kd, a, k, v, ins) = true) {j : Nat} {as rest : List y_T} (e : y_doE R mi (pc, len, q, kd, a, k, v, ins) t st = some (j, as, rest)) {W : y_W} {β : Nat → Int} {h : g_H} {Ls : g_L} {sts : List Value} (hH : y_H φ R W β h) (hS : y_gS W β Ls st sts) :
    s_pc t = pc + 3 ∧ ∃ xs sr, y_gS W β Ls as xs ∧ y_gS W β Ls rest sr ∧ (CALL j xs h 0 0 (fun r h' => P (pc + 3, Ls, r.toList ++ sr, 0, 0, h')) → P (pc, Ls, sts, 0, 0, h)) := by
  obtain ⟨⟨n, hd, hlen, hne⟩, hQ, hlk⟩ := s_okI_eq hI (by omega)
  replace hlk := hlk (by omega)
  have hn := hne (by omega)
  rw [hn] at hd hlen
  clear hne hI
  unfold y_doE at e
  dsimp only at e
  split at e
  next as' rest' e1 =>
    obtain ⟨hg, e2⟩ := s_bif e
    obtain ⟨l, g1, g2, g3⟩ := y_tkn_eq _ _ _ _ _ e1
    rw [List.append_nil] at g1
    rw [g2] at hS
    obtain ⟨u, w, hu, hul, hS1, hS2⟩ := y_gS_app hS
    have hr := y_gS_rev hS1
    rw [← g1] at hr
    have hsu : sts = u.reverse.reverse ++ w := by rw [List.reverse_reverse]; exact hu
    have hul2 : u.reverse.length = k := by rw [List.length_reverse, hul, g3]
    rcases hq with rfl | rfl
    · have hQ' : ∃ i, ins = .invokevirtual i := by
        clear e e1 e2 hd hlk hlen hn hcl hg
        revert hQ
        cases ins <;> intro hQ <;> first | exact ⟨_, rfl⟩ | cases hQ
      obtain ⟨i, rfl⟩ := hQ'
      obtain ⟨ps, hlk⟩ := hlk i rfl
      have hgo : s_pc t = pc + 3 := by have := s_go_eq hg; rw [this]; show pc + len = _; rw [hlen]; rfl
      rw [show Nat.beq 34 35 = false from rfl, cond_false] at e2
      split at e2
      next x rest2 =>
        split at e2
        next ro e3 =>
          split at e2
          next Q e4 =>
            obtain ⟨h2, h3⟩ := s_bif e2
            cases h3
            simp only [Bool.and_eq_true, Bool.or_eq_true, Nat.beq_eq, Bool.not_eq_true', Nat.ble_eq] at h2
            obtain ⟨hkd, hc1, hc2, hck⟩ := h2
            obtain ⟨y, ys, rfl, hgy, hpy, hS3⟩ := y_gS_cons hS2
            obtain ⟨q, ad, f, rfl, hqW, hget, -⟩ := y_ro_ok e3 hgy hH
            have hm := hmi _ _ e4
            rw [hc1, hc2, ← hm.2.2.2.2] at hget
            refine ⟨hgo, .ref ad :: u.reverse, ys, ⟨⟨hgy, hpy⟩, hr⟩, hS3, fun hcall => ?_⟩
            exact hcl _ ⟨_, _, hd, Or.inr (Or.inr (Or.inr (Or.inr (Or.inl ⟨i, kd, _, k, v, ps, u.reverse, ad, ys, q, _, f, 0, 0, rfl, rfl, hkd, hlk, hsu, hul2, hget, by rw [y_sum_g hS3]; exact hck, Nat.zero_le _, Nat.zero_le _, hcall⟩))))⟩
          next => cases e2
        next => cases e2
      next => cases e2
    · have hQ' : ∃ i, ins = .invokestatic i := by
        clear e e1 e2 hd hlk hlen hn hcl hg
        revert hQ
        cases ins <;> intro hQ <;> first | exact ⟨_, rfl⟩ | cases hQ
      obtain ⟨i, rfl⟩ := hQ'
      obtain ⟨ps, hlk⟩ := hlk i rfl
      have hgo : s_pc t = pc + 3 := by have := s_go_eq hg; rw [this]; show pc + len = _; rw [hlen]; rfl
      rw [show Nat.beq 35 35 = true from rfl, cond_true] at e2
      obtain ⟨h2, h3⟩ := s_bif e2
      cases h3
      simp only [Bool.and_eq_true, Bool.or_eq_true, Nat.beq_eq, Nat.ble_eq] at h2
      obtain ⟨hkd, hck⟩ := h2
      refine ⟨hgo, u.reverse, w, hr, hS2, fun hcall => ?_⟩
      exact hcl _ ⟨_, _, hd, Or.inr (Or.inr (Or.inr (Or.inr (Or.inr (Or.inl ⟨i, kd, _, k, v, ps, u.reverse, w, 0, 0, rfl, rfl, hkd, hlk, hsu, hul2, by rw [y_sum_g hS2]; exact hck, Nat.zero_le _, Nat.zero_le _, hcall⟩)))))⟩
  next => cases e
/-- what is wanted of an end -/
def y_end (φ : Nat → Nat → Value) (R : y_R) (P : g_S → Prop) (W : y_W) (β : Nat → Int) (Y : y_X) : Prop := ∀ (W' : y_W) (β' : Nat → Int) (h' : g_H) (Ls' : g_L) (sts' : List Value), W <+: W' → (∀ k, 100000 ≤ k → k < 300000 → β' k = β k) → y_H φ R W' β' h' → y_gL W' β' Y.2.1 Ls' → y_gS W' β' Ls' Y.2.2 sts' → P (s_pc Y.1, Ls', sts', 0, 0, h')
theorem y_end_mono {W W1 : y_W} {β β1 : Nat → Int} {Y : y_X} (hW : W <+: W1) (hb : ∀ k, 100000 ≤ k → k < 300000 → β1 k = β k) (h : y_end φ R P W β Y) : y_end φ R P W1 β1 Y := fun W' β' h' Ls' sts' hW' hb' hH hL hS => h W' β' h' Ls' sts' (hW.trans hW') (fun k h1 h2 => (hb' k h1 h2).trans (hb k h1 h2)) hH hL hS
theorem y_fa_pc {pc : Nat} {a : y_A} : ∀ {G : List y_A}, y_fa pc G = some a → a ∈ G ∧ a.1 = pc
  | [], h => by cases h
  | g :: G, h => by
    rw [y_fa] at h
    cases e : Nat.beq g.1 pc
    · rw [e, cond_false] at h
      exact ⟨List.mem_cons_of_mem _ (y_fa_pc h).1, (y_fa_pc h).2⟩
    · rw [e, cond_true] at h
      cases h
      exact ⟨List.mem_cons_self, Nat.beq_eq.mp e⟩
theorem y_fB_pc {pc : Nat} {b : y_B} : ∀ {An : List y_B}, y_fB pc An = some b → b.1 = pc
  | [], h => by cases h
  | g :: G, h => by
    rw [y_fB] at h
    cases e : Nat.beq g.1 pc
    · rw [e, cond_false] at h
      exact y_fB_pc h
    · rw [e, cond_true] at h
      cases h
      exact Nat.beq_eq.mp e
theorem y_keep_eq {α : Type} (ms : List Nat) (eff : Bool) : ∀ (L : y_L), ∃ V, ∀ k : y_L → α, y_keep ms eff L k = k V
  | [] => ⟨[], fun _ => rfl⟩
  | (j, v) :: t => by
    obtain ⟨V, hV⟩ := y_keep_eq ms eff t
    cases e : (y_isn j ms || (eff && Nat.ble 300000 j))
    · exact ⟨(j, v) :: V, fun k => by rw [y_keep, e, cond_false, hV]⟩
    · exact ⟨V, fun k => by rw [y_keep, e, cond_true, hV]⟩
theorem y_gS_nil {W : y_W} {β : Nat → Int} {Ls : g_L} {sts : List Value} (h : y_gS W β Ls [] sts) : sts = [] := by
  cases sts with
  | nil => rfl
  | cons x xs => exact h.elim
theorem y_run_ok (hcl : ∀ S, g_pre CALL o nL ini bc bs cc P S → P S) (hRo : y_Rok R) (hft : s_ftok ft) (hmi : s_miok mi) (hCS : y_CS R K CALL) (hfull : ∀ r ∈ full, s_okI cc o r = true) :
    ∀ (n : Nat) (G : List y_A) (X : y_X) (outs : List y_X), y_run R ft mi K An full nL n G X = some outs → (∀ r ∈ X.1, s_okI cc o r = true) → (∀ g ∈ G, y_Aok g) →
      (∀ Y ∈ outs, ∀ r ∈ Y.1, s_okI cc o r = true) ∧
      ∀ (W : y_W) (β : Nat → Int) (h : g_H) (Ls : g_L) (sts : List Value), y_H φ R W β h → y_gL W β X.2.1 Ls → y_gS W β Ls X.2.2 sts → (∀ g ∈ G, y_act φ R P W β g) → (∀ Y ∈ outs, y_end φ R P W β Y) → P (s_pc X.1, Ls, sts, 0, 0, h) := by
  intro n
  induction n with
  | zero => intro G X outs e; cases e
  | succ n ih =>
    intro G X outs e hX hG
    obtain ⟨code, L, st⟩ := X
    cases code with
    | nil => cases (show (none : Option (List y_X)) = some outs from e)
    | cons r t =>
      unfold y_run at e
      have hr := hX _ List.mem_cons_self
      have ht : ∀ q ∈ t, s_okI cc o q = true := fun q hq => hX q (List.mem_cons_of_mem _ hq)
      have hcd : ∀ {Xs : List y_X}, y_cd full t Xs → ∀ X ∈ Xs, ∀ q ∈ X.1, s_okI cc o q = true := fun hc X hX q hq => by
        rcases hc X hX q hq with h | h
        · exact ht q h
        · exact hfull q h
      dsimp only at e
      split at e
      next a ea =>
        -- the loop goes on
        obtain ⟨ha1, ha2⟩ := y_fa_pc ea
        split at e
        next =>
          obtain ⟨hb, e2⟩ := s_bif e
          cases e2
          refine ⟨fun Y hY => (by cases hY), fun W β h Ls sts hH hL hS hA hE => ?_⟩
          rw [y_gS_nil hS]
          obtain ⟨β', b1, b2, b3⟩ := y_back_ok (hG a ha1) hb hL
          have key := hA a ha1 W β' h Ls (List.prefix_refl _) (fun k hk => b1 k (by omega)) (y_H_b hRo (fun k hk => b1 k (Or.inr (by omega))) hH) b2 b3
          rw [ha2] at key
          exact key
        next => cases e
      next ea =>
        split at e
        next b eA =>
          -- a loop begins
          have hb1 := y_fB_pc eA
          split at e
          next =>
            obtain ⟨V, eV⟩ := y_keep_eq (α := Option (List y_X)) b.2.2.2.2.1 b.2.2.2.2.2.1 L
            rw [eV] at e
            have ha2 : (y_mkA b V).1 = r.1 := hb1
            generalize y_mkA b V = a at e ha2
            obtain ⟨hb, e2⟩ := s_bif e
            rw [Bool.and_eq_true, Nat.blt_eq] at hb
            unfold y_fin at e2
            split at e2
            next => cases e2
            next Xs e3 =>
              have hcX := hcd (y_do_cd (show y_do R ft full nL (r.1, r.2.1, r.2.2.1, r.2.2.2.1, r.2.2.2.2.1, r.2.2.2.2.2.1, r.2.2.2.2.2.2.1, r.2.2.2.2.2.2.2) t a.2.2.2.2 [] = some Xs from e3))
              refine ⟨fun Y hY => ?_, fun W β h Ls sts hH hL hS hA hE => ?_⟩
              · obtain ⟨X, hXm, outs1, e4, hY1⟩ := s_all_out e2 Y hY
                have hAok := y_ent_A hb.1
                exact (ih (a :: G) X outs1 e4 (hcX X hXm) (fun g hg => by
                  rcases List.mem_cons.mp hg with rfl | hg
                  · exact hAok
                  · exact hG g hg)).1 Y hY1
              · rw [y_gS_nil hS]
                obtain ⟨hAok, hGa, β0, c1, c2⟩ := y_ent_ok hb.1 hL
                have hG' : ∀ g ∈ a :: G, y_Aok g := fun g hg => by
                  rcases List.mem_cons.mp hg with rfl | hg
                  · exact hAok
                  · exact hG g hg
                obtain ⟨l, v, hctr⟩ := hAok.2.2
                have loop : ∀ (N : Nat) (W' : y_W) (β' : Nat → Int) (h' : g_H) (Ls' : g_L), W <+: W' → (∀ k, (k < a.2.2.1 ∨ (100000 ≤ k ∧ k < 300000)) → β' k = β k) → y_H φ R W' β' h' → y_gL W' β' a.2.2.2.2 Ls' → (if a.2.1 = true then (v.2.2.1 - β' a.2.2.1).toNat else (β' a.2.2.1 - v.2.1).toNat) = N → P (a.1, Ls', [], 0, 0, h') := by
                  intro N
                  induction N using Nat.strongRecOn with
                  | ind N ihN =>
                    intro W' β' h' Ls' hW' hb' hH' hL' hN
                    have hbd := y_ctr_ok hctr hAok.1 hL'
                    obtain ⟨pc, len, q, kd, aa, k, vv, ins⟩ := r
                    have hpc : a.1 = pc := ha2
                    rw [hpc]
                    refine y_do_ok hcl hRo hft (by have := hb.2; dsimp only at this; omega) hr ht hH' hL' (st := []) (sts := []) trivial e3 ?_
                    intro X hXm β2 h2 Ls2 sts2 hb2 hH2 hL2 hS2
                    obtain ⟨outs1, e4, hsub⟩ := s_all_in e2 X hXm
                    refine (ih (a :: G) X outs1 e4 (hcX X hXm) hG').2 W' β2 h2 Ls2 sts2 hH2 hL2 hS2 ?_ ?_
                    · intro g hg
                      rcases List.mem_cons.mp hg with rfl | hg
                      · intro W3 β3 h3 Ls3 hW3 hb3 hH3 hL3 hp
                        have hid := hAok.2.1
                        have hid2 : g.2.2.1 < 100000 := by
                          have := hAok.2.1 _ (y_mk_in (y_ctr_eq hctr).1)
                          exact this.2
                        have hbd3 := y_ctr_ok hctr hAok.1 hL3
                        have e9 : β2 g.2.2.1 = β' g.2.2.1 := hb2 _ (by omega)
                        rw [e9] at hp
                        have := ihN (if g.2.1 = true then (v.2.2.1 - β3 g.2.2.1).toNat else (β3 g.2.2.1 - v.2.1).toNat) (by
                          rw [← hN]
                          unfold y_pgs at hp
                          split
                          next hu =>
                            rw [if_pos hu] at hp
                            omega
                          next hu =>
                            rw [if_neg hu] at hp
                            omega) W3 β3 h3 Ls3 (hW'.trans hW3) (fun k hk => by rw [hb3 k hk, hb2 k (by omega), hb' k hk]) hH3 hL3 rfl
                        exact this
                      · refine y_act_mono hW' (fun k hk => ?_) (hA g hg)
                        have hlt := hGa g hg
                        have hid2 : a.2.2.1 < 100000 := (hAok.2.1 _ (y_mk_in (y_ctr_eq hctr).1)).2
                        rw [hb2 k (by omega)]
                        exact hb' k (by omega)
                    · intro Y hY
                      refine y_end_mono hW' (fun k h1 h2 => ?_) (hE Y (hsub Y hY))
                      rw [hb2 k h2]
                      exact hb' k (Or.inr ⟨h1, h2⟩)
                have key := loop _ W β0 h Ls (List.prefix_refl _) (fun k hk => c1 k (by omega)) (y_H_b hRo (fun k hk => c1 k (Or.inr (by omega))) hH) c2 rfl
                rw [ha2] at key
                exact key
          next => cases e
        next eA =>
          cases e40 : Nat.ble 40 r.2.2.1
          · rw [e40, cond_false] at e
            have hq40 : r.2.2.1 < 40 := Nat.lt_of_not_le (fun h => by rw [Nat.ble_eq_true_of_le h] at e40; cases e40)
            cases e34 : (Nat.beq r.2.2.1 34 || Nat.beq r.2.2.1 35)
            · -- a step
              rw [e34, cond_false] at e
              unfold y_fin at e
              split at e
              next => cases e
              next Xs e3 =>
                have hcX := hcd (y_do_cd (show y_do R ft full nL (r.1, r.2.1, r.2.2.1, r.2.2.2.1, r.2.2.2.2.1, r.2.2.2.2.2.1, r.2.2.2.2.2.2.1, r.2.2.2.2.2.2.2) t L st = some Xs from e3))
                refine ⟨fun Y hY => ?_, fun W β h Ls sts hH hL hS hA hE => ?_⟩
                · obtain ⟨X, hXm, outs1, e4, hY1⟩ := s_all_out e Y hY
                  exact (ih G X outs1 e4 (hcX X hXm) hG).1 Y hY1
                · obtain ⟨pc, len, q, kd, aa, k, vv, ins⟩ := r
                  refine y_do_ok hcl hRo hft hq40 hr ht hH hL hS e3 ?_
                  intro X hXm β2 h2 Ls2 sts2 hb2 hH2 hL2 hS2
                  obtain ⟨outs1, e4, hsub⟩ := s_all_in e X hXm
                  refine (ih G X outs1 e4 (hcX X hXm) hG).2 W β2 h2 Ls2 sts2 hH2 hL2 hS2 (fun g hg => y_act_mono (List.prefix_refl _) (fun k hk => ?_) (hA g hg)) (fun Y hY => y_end_mono (List.prefix_refl _) (fun k _ h2 => hb2 k h2) (hE Y (hsub Y hY)))
                  have hid2 : g.2.2.1 < 100000 := by
                    obtain ⟨l, v, hctr⟩ := (hG g hg).2.2
                    exact ((hG g hg).2.1 _ (y_mk_in (y_ctr_eq hctr).1)).2
                  exact hb2 k (by omega)
            · -- a call
              rw [e34, cond_true] at e
              rw [Bool.or_eq_true, Nat.beq_eq, Nat.beq_eq] at e34
              unfold y_cal at e
              split at e
              next => cases e
              next j as rest e3 =>
                rw [y_mV_eq, y_nmr_eq] at e
                split at e
                next => cases e
                next outs0 e5 =>
                  rw [y_aft_eq, y_afS_eq] at e
                  refine ⟨fun Y hY => ?_, fun W β h Ls sts hH hL hS hA hE => ?_⟩
                  · obtain ⟨out, ho, outs1, e4, hY1⟩ := s_all_out e Y hY
                    rw [y_mV_eq, y_tr_eq, y_ref_eq] at e4
                    exact (ih G _ outs1 e4 ht hG).1 Y hY1
                  · obtain ⟨pc, len, q, kd, aa, k, vv, ins⟩ := r
                    obtain ⟨hgo, xs, sr, hx1, hx2, hcall⟩ := y_doE_ok hcl hmi e34 hr e3 hH hS
                    refine hcall (hCS j _ _ outs0 e5 φ W β h xs hH (y_gS_gA (fun _ _ => rfl) hx1) (y_nmrL_ok hL) _ ?_)
                    intro out ho W' β' h' x hW' hb' hM' hH' hR' hA' hN'
                    obtain ⟨outs1, e4, hsub⟩ := s_all_in e out ho
                    rw [y_mV_eq, y_tr_eq, y_ref_eq] at e4
                    have hg2 : ∀ k, 200000 ≤ k → (fun k => if k < 200000 then β k else β' k) k = β' k := fun k hk => if_neg (by omega)
                    have hl2 : ∀ k, k < 300000 → (fun k => if k < 200000 then β k else β' k) k = β k := fun k hk => by
                      by_cases h1 : k < 200000
                      · exact if_pos h1
                      · exact (if_neg h1).trans (hb' k (by omega) hk)
                    have key := (ih G _ outs1 e4 ht hG).2 W' (fun k => if k < 200000 then β k else β' k) h' Ls (x.toList ++ sr) (y_H_b hRo hg2 hH') ?_ ?_ (fun g hg => y_act_mono hW' (fun k hk => ?_) (hA g hg)) (fun Y hY => y_end_mono hW' (fun k _ h2 => hl2 k h2) (hE Y (hsub Y hY)))
                    · rw [hgo] at key
                      exact key
                    · refine y_refL_ok (W := W) (β := β) hW' hl2 hx1 (y_gA_m (fun r n => y_glq_ok hg2) hA') ?_
                      intro p hp
                      rcases List.mem_append.mp hp with hp | hp
                      · exact y_trL_ok hg2 hl2 hM' hL hN' p hp
                      · exact y_ext_L hW' (y_aftL_ok hl2 hL) p hp
                    · have hsr := y_ext_S hW' (y_afSL_ok hl2 hx2)
                      unfold y_rst
                      unfold y_gR at hR'
                      cases eo : out.1 with
                      | none =>
                        rw [eo] at hR'
                        rw [show x = none from hR']
                        exact hsr
                      | some v =>
                        rw [eo] at hR'
                        obtain ⟨y, rfl, hy⟩ := hR'
                        dsimp only
                        rw [y_fv_eq]
                        exact ⟨⟨y_mq_ok (fun r n => y_glq_ok hg2) hy, fun h0 => absurd rfl h0⟩, hsr⟩
                    · have hid2 : g.2.2.1 < 100000 := by
                        obtain ⟨l, v, hctr⟩ := (hG g hg).2.2
                        exact ((hG g hg).2.1 _ (y_mk_in (y_ctr_eq hctr).1)).2
                      exact hl2 k (by omega)
          · -- an end
            rw [e40, cond_true] at e
            cases e
            refine ⟨fun Y hY => ?_, fun W β h Ls sts hH hL hS hA hE => ?_⟩
            · rw [List.mem_singleton] at hY
              subst hY
              exact hX
            · exact hE _ List.mem_cons_self W β h Ls sts (List.prefix_refl _) (fun _ _ _ => rfl) hH hL hS
end Y9
end
section
-- methods of the machine over kinds and bounds are the plain machine's
section Y10
variable {cc : ByteArray} {o nL : Nat} {R : y_R} {mi : List s_MI} {ft : s_FT} {W W' : y_W} {β β' : Nat → Int} {φ : Nat → Nat → Value}
/-- the arguments have names of their own -/
def y_b0 (β : Nat → Int) (xs : List Value) : Nat → Int := fun k => if 100000 ≤ k ∧ k < 150000 then y_vn (xs.getD (k - 100000) .null) else if 150000 ≤ k ∧ k < 200000 then β (k + 150000) else β k
theorem y_arg_ok {n : Nat} {v : y_V} {x : Value} (h : y_g W β v x) (hn : β n = y_vn x) : y_g W β (y_arg n v) x := by
  obtain ⟨t, lo, hi, k, c, k2, c2⟩ := v
  unfold y_arg
  cases e : (Nat.blt t 2 && Nat.beq k 0)
  · exact h
  · rw [cond_true]
    rw [Bool.and_eq_true, Nat.blt_eq, Nat.beq_eq] at e
    match t, e.1, h with
    | 0, _, ⟨m, em, b1, b2, b3⟩ =>
      subst em
      exact ⟨m, rfl, b1, b2, fun _ => by show m.toInt = β n + 0; rw [hn]; show m.toInt = m.toInt + 0; omega, b3.2⟩
    | 1, _, ⟨m, em, b1, b2, b3⟩ =>
      subst em
      exact ⟨m, rfl, b1, b2, fun _ => by show m.toInt = β n + 0; rw [hn]; show m.toInt = m.toInt + 0; omega, b3.2⟩
theorem y_args_ok : ∀ {vs : List y_V} {xs : List Value} {i n : Nat}, y_gA W β vs xs → i + y_sum (vs.map (fun v => (v, 0))) ≤ 1000 → (∀ k x, xs[k]? = some x → β (n + k) = y_vn x) → y_gL W β (y_args i n vs) (lv_args i xs)
  | [], [], _, _, _, _, _ => fun q hq => by cases hq
  | [], _ :: _, _, _, h, _, _ => h.elim
  | _ :: _, [], _, _, h, _, _ => h.elim
  | v :: vs, x :: xs, i, n, h, hi, hb => by
    have hc := y_cat h.1
    have hi' : i + ((bif y_c2 v then 2 else 1) + y_sum (vs.map (fun v => (v, 0)))) ≤ 1000 := hi
    have hrec := y_args_ok (i := if x.category = 2 then i + 2 else i + 1) (n := n + 1) h.2 (by
      rw [hc]
      cases e : y_c2 v
      · rw [e, cond_false] at hi'
        show i + 1 + _ ≤ 1000
        omega
      · rw [e, cond_true] at hi'
        show i + 2 + _ ≤ 1000
        omega) (fun k y hk => by
        have := hb (k + 1) y hk
        rw [← this]
        congr 1
        omega)
    have ei : (bif y_c2 v then i + 2 else i + 1) = if x.category = 2 then i + 2 else i + 1 := by
      rw [hc]
      cases y_c2 v <;> rfl
    intro q hq
    rcases List.mem_cons.mp (show q ∈ (i, y_arg n v) :: y_args (bif y_c2 v then i + 2 else i + 1) (n + 1) vs from hq) with rfl | hq
    · refine ⟨x, y_at_m List.mem_cons_self (by show i < 200000; omega), y_arg_ok h.1 (hb 0 x rfl)⟩
    · rw [ei] at hq
      obtain ⟨y, h1, h2⟩ := hrec q hq
      exact ⟨y, ⟨fun h0 => List.mem_cons_of_mem _ (h1.1 h0), h1.2⟩, h2⟩
theorem y_slA : ∀ {vs : List y_V} {xs : List Value}, y_gA W β vs xs → (lg_sl xs).length = y_sum (vs.map (fun v => (v, 0)))
  | [], [], _ => rfl
  | [], _ :: _, h => h.elim
  | _ :: _, [], h => h.elim
  | v :: vs, x :: xs, h => by
    have e := y_slA h.2
    have hc := y_cat h.1
    have e0 : lg_sl (x :: xs) = (if x.category = 2 then [Slot.val x, .second] else [Slot.val x]) ++ lg_sl xs := by
      unfold lg_sl
      rw [List.flatMap_cons]
    rw [e0, List.length_append, e, hc]
    show _ = (bif y_c2 v then 2 else 1) + y_sum (vs.map (fun v => (v, 0)))
    cases y_c2 v <;> rfl
theorem y_lg_ok (hb : ∀ k, 200000 ≤ k → k < 300000 → β' k = β k) {r : y_Q} {n : Int} (h : y_rl β r n) : y_rl β' (y_loq (y_glq r)) n := by
  have h1 : y_rl (fun k => if k < 300000 then β' k else β k) (y_glq r) n := y_glq_ok (fun k hk => by
    by_cases h1 : k < 300000
    · exact (if_pos h1).trans (hb k hk h1)
    · exact if_neg h1) h
  exact y_loq_ok (fun k hk => (if_pos hk).symm) h1
/-- what is told of the arguments at an end -/
theorem y_oargs_ok {L : y_L} {Ls : g_L} (hW : W <+: W') (hb : ∀ k, 200000 ≤ k → k < 300000 → β' k = β k) (hL : y_gL W' β' L Ls) : ∀ {vs : List y_V} {xs : List Value} {i n : Nat} {α : Type} (k : List y_V → α), y_gA W β vs xs → (∀ k x, xs[k]? = some x → β' (n + k) = y_vn x) → 0 < n → ∃ us, y_oargs L i n vs k = k us ∧ y_gA W' β' us xs
  | [], [], _, _, _, k, _, _, _ => ⟨[], rfl, trivial⟩
  | [], _ :: _, _, _, _, _, h, _, _ => h.elim
  | _ :: _, [], _, _, _, _, h, _, _ => h.elim
  | v :: vs, x :: xs, i, n, α, k, h, hn, h0 => by
    obtain ⟨us, e, hus⟩ := y_oargs_ok hW hb hL (vs := vs) (xs := xs) (i := bif y_c2 v then i + 2 else i + 1) (n := n + 1) (fun us => k (y_oarg L i n v :: us)) h.2 (fun k y hk => by
      have := hn (k + 1) y hk
      rw [← this]
      congr 1
      omega) (by omega)
    refine ⟨y_oarg L i n v :: us, ?_, ?_, hus⟩
    · rw [y_oargs, y_fv_eq]
      exact e
    · have hv : y_g W' β' (y_mq (fun r => y_loq (y_glq r)) v) x := y_mq_ok (fun r n => y_lg_ok hb) (y_ext_g hW h.1)
      unfold y_oarg
      split
      next u eu =>
        cases e1 : (Nat.beq u.1 v.1 && (Nat.blt u.1 2 && (Nat.beq u.2.2.2.1 n && decide (u.2.2.2.2.1 = 0))))
        · exact hv
        · rw [cond_true]
          simp only [Bool.and_eq_true, Nat.beq_eq, Nat.blt_eq, decide_eq_true_eq] at e1
          obtain ⟨e2, e3, e4, e5⟩ := e1
          obtain ⟨y, -, hy⟩ := hL _ (y_find_in eu)
          have hx := hn 0 x rfl
          have hn0 : β' n = y_vn x := hx
          have hyx : y = x := by
            obtain ⟨t, lo, hi, r⟩ := u
            obtain ⟨t', lo', hi', r'⟩ := v
            have e2' : t = t' := e2
            subst e2'
            match t, e3, hy, h.1 with
            | 0, _, ⟨m, em, _, _, b3⟩, ⟨m', em', _⟩ =>
              subst em em'
              have b4 := b3.1 (by rw [show r.1 = n from e4]; omega)
              rw [show r.1 = n from e4, show r.2.1 = 0 from e5, hn0] at b4
              have b5 : m.toInt = m'.toInt + 0 := b4
              rw [Int32.toInt_inj.mp (b5.trans (Int.add_zero _))]
            | 1, _, ⟨m, em, _, _, b3⟩, ⟨m', em', _⟩ =>
              subst em em'
              have b4 := b3.1 (by rw [show r.1 = n from e4]; omega)
              rw [show r.1 = n from e4, show r.2.1 = 0 from e5, hn0] at b4
              have b5 : m.toInt = m'.toInt + 0 := b4
              rw [Int64.toInt_inj.mp (b5.trans (Int.add_zero _))]
          rw [← hyx]
          exact y_mq_ok (fun r n => y_glq_ok (fun _ _ => rfl)) hy
      next => exact hv
/-- an end -/
theorem y_ret_ok {rt : Nat} {rtT : Option FieldType} {post : Option Value → g_H → Prop} (hrt : s_rtok rt rtT) {X : y_X} {x : Option y_V} (e : y_ret rt X = some x) (hX : ∀ r ∈ X.1, s_okI cc o r = true) {Ls : g_L} {sts : List Value} {h : g_H} (hS : y_gS W β Ls X.2.2 sts) : ∃ z, y_gR W β x z ∧ (post z h → g_end cc rtT 0 0 post (s_pc X.1, Ls, sts, 0, 0, h)) := by
  obtain ⟨code, L, st⟩ := X
  match code, e, hX with
  | (pc, len, q, kd, a, k, v, ins) :: t, e, hX =>
    have hr := hX _ List.mem_cons_self
    unfold y_ret at e
    dsimp only at e hS
    split at e
    next =>
      obtain ⟨h3, h4⟩ := s_bif e
      cases h4
      rw [Bool.and_eq_true, Nat.beq_eq, Nat.beq_eq] at h3
      obtain ⟨rfl, rfl⟩ := h3
      obtain ⟨⟨n, hd, hlen, hne⟩, hQ, -⟩ := s_okI_eq hr (by omega)
      have hi : ins = .return_ := of_decide_eq_true hQ
      have hn := hne (by decide)
      rw [hn, hi] at hd
      rw [y_gS_nil hS]
      exact ⟨none, rfl, fun hp => ⟨Nat.le_refl _, Nat.le_refl _, Or.inr (Or.inr (Or.inr ⟨hd, hrt, rfl, hp⟩))⟩⟩
    next u he hX2 =>
      obtain ⟨y, ys, rfl, hg, -, hS'⟩ := y_gS_cons hS
      rw [y_gS_nil hS']
      cases e1 : (Nat.beq q 40 && Nat.beq u.1.1 0)
      · rw [e1, cond_false] at e
        cases e2 : (Nat.beq q 41 && (Nat.beq rt 3 && Nat.beq u.1.1 1))
        · rw [e2, cond_false] at e
          obtain ⟨h3, h4⟩ := s_bif e
          cases h4
          simp only [Bool.and_eq_true, Nat.beq_eq] at h3
          obtain ⟨rfl, rfl, hv⟩ := h3
          obtain ⟨⟨n, hd, hlen, hne⟩, hQ, -⟩ := s_okI_eq hr (by omega)
          have hi : ins = .areturn := of_decide_eq_true hQ
          have hn := hne (by decide)
          rw [hn, hi] at hd
          obtain ⟨nm, hnm⟩ := hrt
          have hk : y_tk 2 u.1 = true := by
            show (Nat.ble 2 u.1.1 && Nat.ble u.1.1 4) = true
            rw [Bool.and_eq_true]
            exact hv
          exact ⟨some y, ⟨y, rfl, hg⟩, fun hp => ⟨Nat.le_refl _, Nat.le_refl _, Or.inr (Or.inr (Or.inl ⟨y, nm, hd, hnm, (y_tk_g hk hg).2.2 (by decide), rfl, hp⟩))⟩⟩
        · rw [e2, cond_true] at e
          cases e
          simp only [Bool.and_eq_true, Nat.beq_eq] at e2
          obtain ⟨rfl, rfl, hv⟩ := e2
          obtain ⟨⟨n, hd, hlen, hne⟩, hQ, -⟩ := s_okI_eq hr (by omega)
          have hi : ins = .lreturn := of_decide_eq_true hQ
          have hn := hne (by decide)
          rw [hn, hi] at hd
          obtain ⟨m, rfl, -⟩ := y_isL_g (Nat.beq_eq.mpr hv) hg
          exact ⟨some (.long m), ⟨_, rfl, hg⟩, fun hp => ⟨Nat.le_refl _, Nat.le_refl _, Or.inr (Or.inl ⟨m, hd, hrt, rfl, hp⟩)⟩⟩
      · rw [e1, cond_true] at e
        rw [Bool.and_eq_true, Nat.beq_eq, Nat.beq_eq] at e1
        obtain ⟨rfl, hv⟩ := e1
        obtain ⟨⟨n, hd, hlen, hne⟩, hQ, -⟩ := s_okI_eq hr (by omega)
        have hi : ins = .ireturn := of_decide_eq_true hQ
        have hn := hne (by decide)
        rw [hn, hi] at hd
        obtain ⟨m, rfl, hm⟩ := y_isI_g (Nat.beq_eq.mpr hv) hg
        cases e3 : Nat.beq rt 1
        · rw [e3, cond_false] at e
          obtain ⟨h3, h4⟩ := s_bif e
          cases h4
          simp only [Bool.and_eq_true, Nat.beq_eq, decide_eq_true_eq] at h3
          obtain ⟨rfl, h5, h6⟩ := h3
          have m1 := hm.1
          have m2 := hm.2.1
          have hx : m = 0 ∨ m = 1 := by
            have h0 : (0 : Int32).toInt = 0 := rfl
            have h1 : (1 : Int32).toInt = 1 := rfl
            rcases (show m.toInt = 0 ∨ m.toInt = 1 by omega) with h | h
            · exact Or.inl (Int32.toInt_inj.mp (h.trans h0.symm))
            · exact Or.inr (Int32.toInt_inj.mp (h.trans h1.symm))
          have hnar : narrow .boolean (.int m) = .int m := by rcases hx with rfl | rfl <;> rfl
          exact ⟨some (.int m), ⟨_, rfl, hg⟩, fun hp => ⟨Nat.le_refl _, Nat.le_refl _, Or.inl ⟨m, .boolean, hd, hrt, hnar, rfl, hp⟩⟩⟩
        · rw [e3, cond_true] at e
          cases e
          rw [Nat.beq_eq] at e3
          subst e3
          exact ⟨some (.int m), ⟨_, rfl, hg⟩, fun hp => ⟨Nat.le_refl _, Nat.le_refl _, Or.inl ⟨m, .int, hd, hrt, rfl, rfl, hp⟩⟩⟩
    next => cases e
theorem y_outs_in {rt : Nat} {as : List y_V} : ∀ {Xs : List y_X} {os : List y_O}, y_outs rt as Xs = some os → ∀ X ∈ Xs, ∃ o, y_out rt as X = some o ∧ o ∈ os
  | [], _, e, X, hX => by cases hX
  | Y :: Xs, os, e, X, hX => by
    rw [y_outs] at e
    split at e
    next => cases e
    next o1 e1 =>
      split at e
      next => cases e
      next os1 e2 =>
        cases e
        rcases List.mem_cons.mp hX with rfl | hX
        · exact ⟨o1, e1, List.mem_cons_self⟩
        · obtain ⟨o2, a1, a2⟩ := y_outs_in e2 X hX
          exact ⟨o2, a1, List.mem_cons_of_mem _ a2⟩
theorem y_leA_ok : ∀ {vs ws : List y_V} {xs : List Value}, y_leA vs ws = true → y_gA W β vs xs → y_gA W β ws xs
  | [], [], [], _, _ => trivial
  | [], [], _ :: _, _, h => h
  | [], _ :: _, _, e, _ => by cases e
  | _ :: _, [], _, e, _ => by cases e
  | _ :: _, _ :: _, [], _, h => h.elim
  | v :: vs, w :: ws, x :: xs, e, h => by
    rw [y_leA, Bool.and_eq_true] at e
    exact ⟨y_le_ok e.1 h.1, y_leA_ok e.2 h.2⟩
theorem y_leN_ok {N M : y_L} {Ls : g_L} (e : y_leN N M = true) (h : y_gL W β N Ls) : y_gL W β M Ls := by
  intro q hq
  unfold y_leN at e
  rw [List.all_eq_true] at e
  have h1 := e q hq
  split at h1
  next v ev =>
    obtain ⟨x, hx, hg⟩ := h _ (y_find_in ev)
    exact ⟨x, hx, y_le_ok h1 hg⟩
  next => cases h1
theorem y_leR_ok {a b : Option y_V} {z : Option Value} (e : y_leR a b = true) (h : y_gR W β a z) : y_gR W β b z := by
  unfold y_leR at e
  split at e
  next => exact h
  next v w =>
    obtain ⟨y, e1, hy⟩ := h
    exact ⟨y, e1, y_le_ok e hy⟩
  next => cases e
theorem y_body_ok {codes : List (List s_I)} {An : Nat → List y_B} {F d : Nat} {K : y_Call} (hRo : y_Rok R) (hft : s_ftok ft) (hmi : s_miok mi) (hco : ∀ j q, mi[j]? = some q → s_pc (codes.getD j []) = 0 ∧ ∀ r ∈ codes.getD j [], s_okI (g_by j) q.2.2.2.2.2 r = true) (ih : y_CS R K (g_run d)) :
    y_CS R (y_body R ft mi codes An F K) (g_run (d + 1)) := by
  intro j as N outs e φ W β h xs hH hA hN post hpost
  unfold y_body at e
  split at e
  next => cases e
  next Q e1 =>
    rw [y_mV_eq, y_nms_eq, y_en_eq] at e
    obtain ⟨h1, h2⟩ := s_bif e
    rw [Bool.and_eq_true, Nat.ble_eq, Nat.ble_eq] at h1
    split at h2
    next => cases h2
    next Xs e2 =>
      split at h2
      next => cases h2
      next os e3 =>
        unfold y_mrgd at h2
        obtain ⟨hcov, h4⟩ := s_bif h2
        cases h4
        obtain ⟨m1, m2, m3, m4, m5⟩ := hmi j Q e1
        obtain ⟨c1, c2⟩ := hco j Q e1
        have hA' : y_gA W β (as.map (y_mq y_glq)) xs := y_gA_m (fun r n => y_glq_ok (fun _ _ => rfl)) hA
        have hb0 : ∀ k, 200000 ≤ k → y_b0 β xs k = β k := fun k hk => by
          unfold y_b0
          rw [if_neg (by omega), if_neg (by omega)]
        have hbM : ∀ k, 150000 ≤ k → k < 200000 → y_b0 β xs k = β (k + 150000) := fun k h1 h2 => by
          unfold y_b0
          rw [if_neg (by omega), if_pos (by omega)]
        have hA0 : y_gA W (y_b0 β xs) (as.map (y_mq y_glq)) xs := y_gA_m (fun r n => y_glq_ok hb0) hA
        have hlen : ∀ {vs : List y_V} {ys : List Value}, y_gA W β vs ys → ys.length ≤ y_sum (vs.map (fun v => (v, 0))) := by
          intro vs
          induction vs with
          | nil =>
            intro ys h
            cases ys with
            | nil => exact Nat.le_refl _
            | cons _ _ => exact h.elim
          | cons v vs ihv =>
            intro ys h
            cases ys with
            | nil => exact h.elim
            | cons y ys =>
              have := ihv h.2
              show ys.length + 1 ≤ (bif y_c2 v then 2 else 1) + y_sum (vs.map (fun v => (v, 0)))
              cases y_c2 v
              · show _ ≤ 1 + _
                omega
              · show _ ≤ 2 + _
                omega
        have hl := hlen hA'
        have hnm : ∀ k x, xs[k]? = some x → y_b0 β xs (100000 + k) = y_vn x := fun k x hk => by
          have hkl : k < xs.length := (List.getElem?_eq_some_iff.mp hk).1
          unfold y_b0
          rw [if_pos (by omega), show 100000 + k - 100000 = k by omega, List.getD_eq_getElem?_getD, hk]
          rfl
        refine ⟨m1, ?_, ?_⟩
        · rw [y_slA hA', m2]
          exact h1.1
        · rw [m5, m2, m4]
          intro P hpP hcl
          have key := (y_run_ok (φ := φ) (P := P) hcl hRo hft hmi ih c2 F [] _ Xs e2 c2 (fun g hg => by cases hg))
          have fin := key.2 W (y_b0 β xs) h (lv_args 0 xs) [] (y_H_b hRo hb0 hH) (fun q hq => by
            rcases List.mem_append.mp hq with hq | hq
            · exact y_args_ok hA0 (by omega) hnm q hq
            · exact y_enL_ok (fun k h1 h2 => by rw [hb0 k (by omega), hbM _ (by omega) (by omega)]; congr 1; omega) (y_nmsL_ok hb0 hN) q hq) trivial (fun g hg => by cases hg) ?_
          · dsimp only at fin
            rw [c1] at fin
            exact fin
          · intro Y hY W' β' h' Ls' sts' hW' hb' hH' hL' hS'
            obtain ⟨o1, eo, ho⟩ := y_outs_in e3 Y hY
            have hcv : ∃ m ∈ y_mrg os [], y_leO o1 m = true := by
              unfold y_cov at hcov
              rw [List.all_eq_true] at hcov
              exact List.any_eq_true.mp (hcov o1 ho)
            obtain ⟨m, hm, hle⟩ := hcv
            unfold y_leO at hle
            rw [Bool.and_eq_true, Bool.and_eq_true] at hle
            unfold y_out at eo
            split at eo
            next => cases eo
            next x ex =>
              obtain ⟨z, hz, hend⟩ := y_ret_ok (post := post) (h := h') m3 ex (key.1 Y hY) hS'
              have hbg : ∀ k, 200000 ≤ k → k < 300000 → β' k = β k := fun k h1 h2 => (hb' k (by omega) h2).trans (hb0 k h1)
              obtain ⟨us, eu, hus⟩ := y_oargs_ok hW' hbg hL' (i := 0) (n := 100000) (fun us => y_nmo Y.2.1 (fun N => y_outk x us N)) hA' (fun k x hk => by
                  have hkl : k < xs.length := (List.getElem?_eq_some_iff.mp hk).1
                  rw [hb' _ (by omega) (by omega)]
                  exact hnm k x hk) (by omega)
              rw [eu] at eo
              rw [y_nmo_eq] at eo
              have hNs : y_gL W' β' (y_nmoL Y.2.1) [] := y_nmoL_ok hL'
              have fin2 : y_gR W' β' o1.1 z ∧ o1.2.1 = us ∧ o1.2.2 = y_nmoL Y.2.1 := by
                cases x with
                | none =>
                  cases eo
                  exact ⟨hz, rfl, rfl⟩
                | some v =>
                  unfold y_outk at eo
                  dsimp only at eo
                  rw [y_fv_eq] at eo
                  cases eo
                  obtain ⟨y, ey, hy⟩ := hz
                  exact ⟨⟨y, ey, y_mq_ok (fun r n => y_glq_ok (fun _ _ => rfl)) hy⟩, rfl, rfl⟩
              obtain ⟨f1, f2, f3⟩ := fin2
              rw [f2, f3] at hle
              exact hpP _ (hend (hpost m hm W' β' h' z hW' hbg (fun k h1 h2 => (hb' k (by omega) (by omega)).trans (hbM k h1 h2)) hH' (y_leR_ok hle.1 f1) (y_leA_ok hle.2.1 hus) (y_leN_ok hle.2.2 hNs)))
/-- EVERY CALL of the machine over kinds and bounds is sound, where those told by hand are -/
theorem y_K_ok {codes : List (List s_I)} {An : Nat → List y_B} {F : Nat} {hand : Nat → y_Call} (hRo : y_Rok R) (hft : s_ftok ft) (hmi : s_miok mi) (hco : ∀ j q, mi[j]? = some q → s_pc (codes.getD j []) = 0 ∧ ∀ r ∈ codes.getD j [], s_okI (g_by j) q.2.2.2.2.2 r = true) (hh : ∀ d, y_CS R (hand d) (g_run (d + 1))) :
    ∀ d, y_CS R (y_K R ft mi codes An F hand d) (g_run d) := by
  intro d
  induction d with
  | zero => intro j as N outs e; cases e
  | succ d ih =>
    intro j as N outs e
    simp only [y_K] at e
    split at e
    next outs' e1 =>
      cases e
      exact hh d j as N _ e1
    next => exact y_body_ok hRo hft hmi hco ih j as N outs e
end Y10
end
section
-- roles of cells, names of fields (made by wip/p24/ysim/emit2.py and 51.py); y_Rc: the class, the model frozen; y_Rm: the model, the class frozen
set_option maxRecDepth 20000
def y_Rc : y_R := ([
  (false, 11, 12, 0, [(2, 1, 0, 0, 0, 0, 0), (2, 13, 0, 0, 0, 0, 0), (2, 2, 0, 0, 0, 0, 0), (2, 3, 0, 0, 0, 0, 0), (2, 5, 0, 0, 0, 0, 0), (2, 6, 0, 0, 0, 0, 0), (2, 7, 0, 0, 0, 0, 0), (2, 8, 0, 0, 0, 0, 0), (2, 9, 0, 0, 0, 0, 0), (2, 10, 0, 0, 0, 0, 0), (2, 11, 0, 0, 0, 0, 0), (2, 11, 0, 0, 0, 0, 0)]),
  (false, 1, 11, 0, [(2, 14, 0, 0, 0, 0, 0), (2, 15, 0, 0, 0, 0, 0), (2, 16, 0, 0, 0, 0, 0), (2, 17, 0, 0, 0, 0, 0), (2, 18, 0, 0, 0, 0, 0), (2, 19, 0, 0, 0, 0, 0), (2, 20, 0, 0, 0, 0, 0), (2, 21, 0, 0, 0, 0, 0), (2, 22, 0, 0, 0, 0, 0), (0, (-2147483648), 2147483647, 0, 0, 0, 0), (0, (-2147483648), 2147483647, 0, 0, 0, 0)]),
  (false, 9, 3, 0, [(2, 23, 0, 0, 0, 0, 0), (2, 24, 0, 0, 0, 0, 0), (0, 0, 1, 0, 0, 0, 0)]),
  (false, 3, 14, 0, [(2, 4, 0, 0, 0, 0, 0), (2, 25, 0, 0, 0, 0, 0), (2, 26, 0, 0, 0, 0, 0), (2, 27, 0, 0, 0, 0, 0), (2, 28, 0, 0, 0, 0, 0), (2, 29, 0, 0, 0, 0, 0), (2, 30, 0, 0, 0, 0, 0), (2, 31, 0, 0, 0, 0, 0), (2, 32, 0, 0, 0, 0, 0), (2, 33, 0, 0, 0, 0, 0), (0, (-2147483648), 2147483647, 0, 0, 0, 0), (1, (-9223372036854775808), 9223372036854775807, 0, 0, 0, 0), (1, (-9223372036854775808), 9223372036854775807, 0, 0, 0, 0), (0, 0, 1, 0, 0, 0, 0)]),
  (false, 10, 5, 0, [(2, 34, 0, 0, 0, 0, 0), (2, 35, 0, 0, 0, 0, 0), (2, 36, 0, 0, 0, 0, 0), (2, 37, 0, 0, 0, 0, 0), (0, (-2147483648), 2147483647, 0, 0, 0, 0)]),
  (false, 8, 2, 0, [(2, 38, 0, 0, 0, 0, 0), (0, (-2147483648), 2147483647, 0, 0, 0, 0)]),
  (false, 7, 3, 0, [(0, 10, 400, 0, 0, 0, 0), (0, 10, 400, 0, 0, 0, 0), (2, 39, 0, 0, 0, 0, 0)]),
  (false, 4, 4, 0, [(2, 40, 0, 0, 0, 0, 0), (2, 41, 0, 0, 0, 0, 0), (2, 42, 0, 0, 0, 0, 0), (0, (-2147483648), 2147483647, 0, 0, 0, 0)]),
  (false, 2, 7, 0, [(2, 43, 0, 0, 0, 0, 0), (2, 44, 0, 0, 0, 0, 0), (2, 45, 0, 0, 0, 0, 0), (2, 46, 0, 0, 0, 0, 0), (0, (-2147483648), 2147483647, 0, 0, 0, 0), (0, 0, 20, 0, 0, 0, 0), (0, (-2147483648), 2147483647, 0, 0, 0, 0)]),
  (false, 5, 5, 0, [(2, 47, 0, 0, 0, 0, 0), (2, 48, 0, 0, 0, 0, 0), (2, 49, 0, 0, 0, 0, 0), (2, 50, 0, 0, 0, 0, 0), (0, (-2147483648), 2147483647, 0, 0, 0, 0)]),
  (false, 6, 2, 0, [(2, 51, 0, 0, 0, 0, 0), (0, (-2147483648), 2147483647, 0, 0, 0, 0)]),
  (false, 0, 8, 0, [(2, 52, 0, 0, 0, 0, 0), (2, 53, 0, 0, 0, 0, 0), (2, 54, 0, 0, 0, 0, 0), (2, 55, 0, 0, 0, 0, 0), (0, (-2147483648), 2147483647, 0, 0, 0, 0), (0, (-2147483648), 2147483647, 0, 0, 0, 0), (0, (-2147483648), 2147483647, 0, 0, 0, 0), (0, 0, 1, 0, 0, 0, 0)]),
  (false, 12, 69, 0, []),
  (true, 4, 4, 0, [(3, 1, 0, 0, 0, 0, 0)]),
  (true, 0, 14, 0, [(0, (-2147483648), 2147483647, 0, 0, 0, 0)]),
  (true, 0, 14, 0, [(0, 0, 400, 0, 0, 0, 0)]),
  (true, 0, 14, 0, [(0, (-2147483648), 2147483647, 0, 0, 0, 0)]),
  (true, 0, 14, 0, [(0, (-2147483648), 2147483647, 0, 0, 0, 0)]),
  (true, 0, 14, 0, [(0, (-2147483648), 2147483647, 0, 0, 0, 0)]),
  (true, 0, 16, 0, [(0, (-2147483648), 2147483647, 0, 0, 0, 0)]),
  (true, 0, 16, 0, [(0, (-2147483648), 2147483647, 0, 0, 0, 0)]),
  (true, 0, 10, 0, [(0, (-2147483648), 2147483647, 0, 0, 0, 0)]),
  (true, 0, 10, 0, [(0, (-2147483648), 2147483647, 0, 0, 0, 0)]),
  (true, 1, 10, 0, [(1, (-9223372036854775808), 9223372036854775807, 0, 0, 0, 0)]),
  (true, 1, 10, 0, [(1, (-9223372036854775808), 9223372036854775807, 0, 0, 0, 0)]),
  (true, 0, 14, 0, [(0, (-2147483648), 2147483647, 0, 0, 0, 0)]),
  (true, 0, 14, 0, [(0, (-2147483648), 2147483647, 0, 0, 0, 0)]),
  (true, 0, 14, 0, [(0, (-2147483648), 2147483647, 0, 0, 0, 0)]),
  (true, 0, 14, 0, [(0, 0, 400, 0, 0, 0, 0)]),
  (true, 0, 14, 0, [(0, (-2147483648), 2147483647, 0, 0, 0, 0)]),
  (true, 1, 14, 0, [(1, (-9223372036854775808), 9223372036854775807, 0, 0, 0, 0)]),
  (true, 1, 14, 0, [(1, (-9223372036854775808), 9223372036854775807, 0, 0, 0, 0)]),
  (true, 0, 800, 0, [(0, (-2147483648), 2147483647, 0, 0, 0, 0)]),
  (true, 0, 14, 0, [(0, (-2147483648), 2147483647, 0, 0, 0, 0)]),
  (true, 0, 10, 0, [(0, (-2147483648), 2147483647, 0, 0, 0, 0)]),
  (true, 0, 10, 0, [(0, (-2147483648), 2147483647, 0, 0, 0, 0)]),
  (true, 0, 10, 0, [(0, (-2147483648), 2147483647, 0, 0, 0, 0)]),
  (true, 0, 10, 0, [(0, (-2147483648), 2147483647, 0, 0, 0, 0)]),
  (true, 0, 80, 0, [(0, (-2147483648), 2147483647, 0, 0, 0, 0)]),
  (true, 0, 61, 0, [(0, (-2147483648), 2147483647, 0, 0, 0, 0)]),
  (true, 0, 14, 0, [(0, (-2147483648), 2147483647, 0, 0, 0, 0)]),
  (true, 0, 14, 0, [(0, (-2147483648), 2147483647, 0, 0, 0, 0)]),
  (true, 0, 14, 0, [(0, (-2147483648), 2147483647, 0, 0, 0, 0)]),
  (true, 2, 223, 0, [(0, 0, 1, 0, 0, 0, 0)]),
  (true, 0, 20, 0, [(0, (-2147483648), 2147483647, 0, 0, 0, 0)]),
  (true, 2, 20, 0, [(0, 0, 1, 0, 0, 0, 0)]),
  (true, 0, 8, 0, [(0, (-2147483648), 2147483647, 0, 0, 0, 0)]),
  (true, 0, 12, 0, [(0, (-2147483648), 2147483647, 0, 0, 0, 0)]),
  (true, 0, 12, 0, [(0, (-2147483648), 2147483647, 0, 0, 0, 0)]),
  (true, 0, 12, 0, [(0, (-2147483648), 2147483647, 0, 0, 0, 0)]),
  (true, 0, 12, 0, [(0, (-2147483648), 2147483647, 0, 0, 0, 0)]),
  (true, 1, 16, 0, [(1, (-9223372036854775808), 9223372036854775807, 0, 0, 0, 0)]),
  (true, 0, 8, 0, [(0, (-2147483648), 2147483647, 0, 0, 0, 0)]),
  (true, 0, 8, 0, [(0, (-2147483648), 2147483647, 0, 0, 0, 0)]),
  (true, 0, 8, 0, [(0, (-2147483648), 2147483647, 0, 0, 0, 0)]),
  (true, 0, 256, 0, [(0, (-2147483648), 2147483647, 0, 0, 0, 0)]),
  (true, 0, 14, 0, []),
  (true, 0, 14, 0, []),
  (true, 0, 14, 0, []),
  (true, 0, 14, 0, []),
  (true, 0, 14, 0, []),
  (true, 0, 16, 0, []),
  (true, 0, 16, 0, []),
  (true, 0, 10, 0, []),
  (true, 0, 10, 0, []),
  (true, 0, 8, 0, []),
  (true, 0, 8, 0, []),
  (true, 0, 8, 0, []),
  (true, 3, 80, 0, []),
  (true, 1, 32, 0, []),
  (true, 1, 10, 0, []),
  (true, 1, 10, 0, []),
  (true, 2, 10, 0, []),
  (true, 0, 10, 0, []),
  (true, 0, 10, 0, []),
  (true, 0, 14, 0, []),
  (true, 0, 14, 0, []),
  (true, 0, 14, 0, []),
  (true, 2, 14, 0, []),
  (true, 0, 14, 0, []),
  (true, 1, 15, 0, []),
  (true, 1, 15, 0, []),
  (true, 0, 5614, 0, []),
  (true, 0, 8, 0, []),
  (true, 0, 8, 0, []),
  (true, 0, 8, 0, []),
  (true, 0, 4, 0, []),
  (true, 0, 401, 0, []),
  (true, 0, 14, 0, []),
  (true, 0, 14, 0, []),
  (true, 0, 8, 0, []),
  (true, 2, 223, 0, []),
  (true, 0, 20, 0, []),
  (true, 2, 20, 0, []),
  (true, 0, 8, 0, []),
  (true, 0, 12, 0, []),
  (true, 0, 12, 0, []),
  (true, 0, 12, 0, []),
  (true, 0, 12, 0, []),
  (true, 0, 496, 0, []),
  (true, 2, 4, 0, []),
  (true, 1, 1, 0, [(1, (-9223372036854775808), 9223372036854775807, 0, 0, 0, 0)])],
  [(300001, 8, 5)])
def y_Rm : y_R := ([
  (false, 11, 12, 0, []),
  (false, 1, 11, 0, []),
  (false, 9, 3, 0, []),
  (false, 3, 14, 0, []),
  (false, 10, 5, 0, []),
  (false, 8, 2, 0, []),
  (false, 7, 3, 0, []),
  (false, 4, 4, 0, []),
  (false, 2, 7, 0, []),
  (false, 5, 5, 0, []),
  (false, 6, 2, 0, []),
  (false, 0, 8, 0, []),
  (false, 12, 69, 0, [(0, 0, 14, 0, 0, 0, 0), (2, 56, 0, 0, 0, 0, 0), (2, 57, 0, 0, 0, 0, 0), (2, 58, 0, 0, 0, 0, 0), (2, 59, 0, 0, 0, 0, 0), (2, 60, 0, 0, 0, 0, 0), (0, 0, 16, 0, 0, 0, 0), (2, 61, 0, 0, 0, 0, 0), (2, 62, 0, 0, 0, 0, 0), (2, 63, 0, 0, 0, 0, 0), (2, 64, 0, 0, 0, 0, 0), (0, 0, 8, 0, 0, 0, 0), (2, 65, 0, 0, 0, 0, 0), (2, 66, 0, 0, 0, 0, 0), (2, 67, 0, 0, 0, 0, 0), (0, 10, 400, 0, 0, 200016, 0), (0, 10, 400, 0, 0, 0, 0), (2, 68, 0, 0, 0, 0, 0), (0, 0, 80, 0, 0, 0, 0), (2, 69, 0, 0, 0, 0, 0), (0, 0, 32, 0, 0, 0, 0), (0, (-2147483648), 2147483647, 0, 0, 0, 0), (2, 70, 0, 0, 0, 0, 0), (2, 71, 0, 0, 0, 0, 0), (2, 72, 0, 0, 0, 0, 0), (1, (-400000000000000000), 400000000000000000, 0, 0, 0, 0), (1, 0, 400000000000000000, 0, 0, 0, 0), (2, 73, 0, 0, 0, 0, 0), (2, 74, 0, 0, 0, 0, 0), (0, 0, 10, 0, 0, 0, 0), (2, 75, 0, 0, 0, 0, 0), (2, 76, 0, 0, 0, 0, 0), (0, 0, 14, 0, 0, 0, 0), (2, 77, 0, 0, 0, 0, 0), (2, 78, 0, 0, 0, 0, 0), (2, 79, 0, 0, 0, 0, 0), (2, 80, 0, 0, 0, 0, 0), (2, 81, 0, 0, 0, 0, 0), (2, 82, 0, 0, 0, 0, 0), (0, (-2147483648), 2147483647, 0, 0, 0, 0), (0, 0, 80, 0, 0, 0, 0), (0, 0, 100, 0, 0, 0, 0), (0, (-2147483648), 2147483647, 0, 0, 0, 0), (2, 83, 0, 0, 0, 0, 0), (2, 84, 0, 0, 0, 0, 0), (2, 85, 0, 0, 0, 0, 0), (2, 86, 0, 0, 0, 0, 0), (2, 87, 0, 0, 0, 0, 0), (2, 88, 0, 0, 0, 0, 0), (2, 89, 0, 0, 0, 0, 0), (1, (-4000000000000), 4000000000000, 0, 0, 0, 0), (1, 0, 4000000000000, 0, 0, 0, 0), (2, 90, 0, 0, 0, 0, 0), (0, (-2147483648), 2147483647, 0, 0, 0, 0), (2, 91, 0, 0, 0, 0, 0), (0, (-2147483648), 2147483647, 0, 0, 0, 0), (0, 0, 20, 0, 0, 0, 0), (2, 92, 0, 0, 0, 0, 0), (2, 93, 0, 0, 0, 0, 0), (0, 0, 8, 0, 0, 0, 0), (2, 94, 0, 0, 0, 0, 0), (0, 0, 12, 0, 0, 0, 0), (2, 95, 0, 0, 0, 0, 0), (2, 96, 0, 0, 0, 0, 0), (2, 97, 0, 0, 0, 0, 0), (2, 98, 0, 0, 0, 0, 0), (2, 99, 0, 0, 0, 0, 0), (2, 100, 0, 0, 0, 0, 0), (0, 0, 496, 0, 0, 0, 0)]),
  (true, 4, 4, 0, []),
  (true, 0, 14, 0, []),
  (true, 0, 14, 0, []),
  (true, 0, 14, 0, []),
  (true, 0, 14, 0, []),
  (true, 0, 14, 0, []),
  (true, 0, 16, 0, []),
  (true, 0, 16, 0, []),
  (true, 0, 10, 0, []),
  (true, 0, 10, 0, []),
  (true, 1, 10, 0, []),
  (true, 1, 10, 0, []),
  (true, 0, 14, 0, []),
  (true, 0, 14, 0, []),
  (true, 0, 14, 0, []),
  (true, 0, 14, 0, []),
  (true, 0, 14, 0, []),
  (true, 1, 14, 0, []),
  (true, 1, 14, 0, []),
  (true, 0, 800, 0, []),
  (true, 0, 14, 0, []),
  (true, 0, 10, 0, []),
  (true, 0, 10, 0, []),
  (true, 0, 10, 0, []),
  (true, 0, 10, 0, []),
  (true, 0, 80, 0, []),
  (true, 0, 61, 0, []),
  (true, 0, 14, 0, []),
  (true, 0, 14, 0, []),
  (true, 0, 14, 0, []),
  (true, 2, 223, 0, []),
  (true, 0, 20, 0, []),
  (true, 2, 20, 0, []),
  (true, 0, 8, 0, []),
  (true, 0, 12, 0, []),
  (true, 0, 12, 0, []),
  (true, 0, 12, 0, []),
  (true, 0, 12, 0, []),
  (true, 1, 16, 0, []),
  (true, 0, 8, 0, []),
  (true, 0, 8, 0, []),
  (true, 0, 8, 0, []),
  (true, 0, 256, 0, []),
  (true, 0, 14, 200002, [(0, 10, 400, 0, 0, 0, 0), (0, 0, 400, 0, 0, 0, 0)]),
  (true, 0, 14, 200002, [(0, 10, 400, 0, 0, 0, 0), (0, 0, 400, 0, 0, 0, 0)]),
  (true, 0, 14, 200002, [(0, 10, 400, 0, 0, 0, 0), (0, 0, 400, 0, 0, 0, 0)]),
  (true, 0, 14, 0, [(0, 0, 9, 0, 0, 0, 0)]),
  (true, 0, 14, 0, [(0, 0, 9, 0, 0, 0, 0)]),
  (true, 0, 16, 200003, [(0, 0, 13, 0, 0, 200002, (-1)), (0, 0, 13, 0, 0, 0, 0)]),
  (true, 0, 16, 200003, [(0, 0, 13, 0, 0, 200002, (-1)), (0, 0, 13, 0, 0, 0, 0)]),
  (true, 0, 10, 0, [(0, (-500), 500, 0, 0, 0, 0)]),
  (true, 0, 10, 0, [(0, (-500), 500, 0, 0, 0, 0)]),
  (true, 0, 8, 200004, [(0, 1, 2000, 0, 0, 0, 0), (0, 0, 2000, 0, 0, 0, 0)]),
  (true, 0, 8, 200004, [(0, 1, 2000, 0, 0, 0, 0), (0, 0, 2000, 0, 0, 0, 0)]),
  (true, 0, 8, 0, [(0, (-2147483648), 2147483647, 0, 0, 0, 0)]),
  (true, 3, 80, 0, [(0, (-128), 127, 0, 0, 0, 0)]),
  (true, 1, 32, 0, [(1, (-9223372036854775808), 9223372036854775807, 0, 0, 0, 0)]),
  (true, 1, 10, 0, [(1, (-1000000000000000), 1000000000000000, 0, 0, 0, 0)]),
  (true, 1, 10, 0, [(1, 0, 1000000000000000, 0, 0, 0, 0)]),
  (true, 2, 10, 0, [(0, 0, 1, 0, 0, 0, 0)]),
  (true, 0, 10, 0, [(0, 0, 99, 0, 0, 0, 0)]),
  (true, 0, 10, 0, [(0, 0, 15, 0, 0, 0, 0)]),
  (true, 0, 14, 0, [(0, 0, 13, 0, 0, 0, 0)]),
  (true, 0, 14, 0, [(0, (-2147483648), 2147483647, 0, 0, 0, 0)]),
  (true, 0, 14, 0, [(0, (-2147483648), 2147483647, 0, 0, 0, 0)]),
  (true, 2, 14, 0, [(0, 0, 1, 0, 0, 0, 0)]),
  (true, 0, 14, 0, [(0, 0, 400, 0, 0, 0, 0)]),
  (true, 1, 15, 0, [(1, (-9223372036854775808), 9223372036854775807, 0, 0, 0, 0)]),
  (true, 1, 15, 0, [(1, (-9223372036854775808), 9223372036854775807, 0, 0, 0, 0)]),
  (true, 0, 5614, 0, [(0, (-2147483648), 2147483647, 0, 0, 0, 0)]),
  (true, 0, 8, 0, [(0, 0, 2000, 0, 0, 0, 0)]),
  (true, 0, 8, 0, [(0, 0, 2000, 0, 0, 0, 0)]),
  (true, 0, 8, 0, [(0, (-2147483648), 2147483647, 0, 0, 0, 0)]),
  (true, 0, 4, 0, [(0, (-2147483648), 2147483647, 0, 0, 0, 0)]),
  (true, 0, 401, 0, [(0, (-2147483648), 2147483647, 0, 0, 0, 0)]),
  (true, 0, 14, 0, [(0, 0, 13, 0, 0, 0, 0)]),
  (true, 0, 14, 0, [(0, (-1), 13, 0, 0, 0, 0)]),
  (true, 0, 8, 0, [(0, 0, 7, 0, 0, 0, 0)]),
  (true, 2, 223, 0, [(0, 0, 1, 0, 0, 0, 0)]),
  (true, 0, 20, 0, [(0, 0, 9999, 0, 0, 0, 0)]),
  (true, 2, 20, 0, [(0, 0, 1, 0, 0, 0, 0)]),
  (true, 0, 8, 0, [(0, 0, 999, 0, 0, 0, 0)]),
  (true, 0, 12, 0, [(0, (-2147483648), 2147483647, 0, 0, 0, 0)]),
  (true, 0, 12, 0, [(0, (-2147483648), 2147483647, 0, 0, 0, 0)]),
  (true, 0, 12, 0, [(0, (-2147483648), 2147483647, 0, 0, 0, 0)]),
  (true, 0, 12, 0, [(0, (-2147483648), 2147483647, 0, 0, 0, 0)]),
  (true, 0, 496, 0, [(0, (-2147483648), 2147483647, 0, 0, 0, 0)]),
  (true, 2, 4, 0, [(0, 0, 1, 0, 0, 0, 0)]),
  (true, 1, 1, 0, [])],
  [(200002, 12, 0), (200003, 12, 6), (200004, 12, 11), (300005, 12, 18), (300006, 12, 20), (300007, 12, 29), (300008, 12, 32), (300009, 12, 40), (300010, 12, 41), (300011, 12, 56), (300012, 12, 59), (300013, 12, 61), (300014, 12, 68), (200015, 12, 15), (200016, 12, 16)])
theorem y_Rc_no {r : Nat} {ro : y_R1} (h : y_Rc.1[r]? = some ro) : y_rov ro = true → False := by
  intro e
  have := List.all_eq_true.mp (show y_Rc.1.all (fun ro => !y_rov ro) = true by decide +kernel) ro (List.mem_of_getElem? h)
  rw [e] at this
  cases this
end
section
-- loops of methods (made by wip/p24/ysim/emit.py)
set_option maxRecDepth 20000
def y_Atab : List (Nat × List y_B) := [
  (30, [(55, true, 441, [(6, 441)], [6], true, [(6, (0, 0, 14, 441, 0, 0, 0))])]),
  (31, [(2, true, 17, [(1, 17)], [1], true, [(1, (0, 0, 2147483647, 17, 0, 0, 0))])]),
  (39, [(4, true, 33, [(3, 33), (2, 34)], [2, 3], true, [(3, (0, 0, 2147483647, 33, 0, 0, 0)), (2, (0, (-2147483648), 2147483647, 34, 0, 0, 0))])]),
  (47, [(2, true, 17, [(3, 17)], [3], true, [(3, (0, 0, 10, 17, 0, 0, 0))]),
    (51, true, 409, [(4, 409), (3, 410)], [3, 4], true, [(4, (0, 0, 10, 409, 0, 0, 0)), (3, (0, 0, 1, 410, 0, 0, 0))])]),
  (49, [(5, true, 41, [(4, 41), (3, 42)], [3, 4, 5, 6, 7], true, [(4, (0, 0, 2147483647, 41, 0, 0, 0)), (3, (0, 0, 1, 42, 0, 0, 0))])]),
  (55, [(15, true, 121, [(8, 121), (6, 122), (4, 123)], [4, 6, 8, 9], false, [(8, (0, 0, 100, 121, 0, 0, 0)), (6, (1, (-9223372036854775808), 9223372036854775807, 122, 0, 0, 0)), (4, (1, (-9223372036854775808), 9223372036854775807, 123, 0, 0, 0))])]),
  (57, [(2, true, 17, [(3, 17)], [3], true, [(3, (0, 0, 2147483647, 17, 0, 0, 0))])]),
  (61, [(26, true, 209, [(4, 209), (3, 210), (2, 211)], [2, 3, 4], true, [(4, (0, 0, 10, 209, 0, 0, 0)), (3, (0, (-2147483648), 2147483647, 210, 0, 0, 0)), (2, (0, (-2147483648), 2147483647, 211, 0, 0, 0))])]),
  (62, [(25, true, 201, [(3, 201), (2, 202)], [2, 3, 4], true, [(3, (0, 0, 2147483647, 201, 0, 0, 0)), (2, (0, (-2147483648), 2147483647, 202, 0, 0, 0))])]),
  (63, [(17, true, 137, [(4, 137), (3, 138)], [3, 4, 5], true, [(4, (0, 0, 2147483647, 137, 0, 0, 0)), (3, (0, (-2147483648), 2147483647, 138, 0, 0, 0))])]),
  (74, [(21, true, 169, [(3, 169)], [3, 4, 5], true, [(3, (0, 0, 2147483647, 169, 0, 0, 0))])]),
  (75, [(23, false, 185, [(4, 185), (3, 186)], [3, 4, 5, 6, 7], true, [(4, (0, (-2147483648), 2147483647, 185, 0, 0, 0)), (3, (0, (-2147483648), 2147483647, 186, 0, 0, 0))])]),
  (76, [(19, true, 153, [(3, 153)], [3, 4, 5, 6], true, [(3, (0, 0, 10, 153, 0, 0, 0))]),
    (28, true, 225, [(4, 225)], [4, 5, 6], true, [(4, (0, 0, 2147483647, 225, 0, 0, 0))])]),
  (77, [(2, true, 17, [(2, 17)], [2], false, [(2, (0, 0, 2000, 17, 0, 0, 0))])]),
  (79, [(3, true, 25, [(4, 25)], [4, 5, 6], true, [(4, (0, 0, 2147483647, 25, 0, 0, 0))])]),
  (82, [(2, true, 17, [(3, 17)], [3], true, [(3, (0, 0, 2147483647, 17, 0, 0, 0))])]),
  (84, [(2, true, 17, [(2, 17)], [2], true, [(2, (0, 0, 2147483647, 17, 0, 0, 0))])]),
  (85, [(23, true, 185, [(4, 185)], [4], true, [(4, (0, 0, 200000, 185, 0, 0, 0))])]),
  (88, [(4, true, 33, [(3, 33), (1, 34)], [1, 3], true, [(3, (0, 0, 2147483647, 33, 0, 0, 0)), (1, (1, (-9223372036854775808), 9223372036854775807, 34, 0, 0, 0))])]),
  (91, [(66, true, 529, [(2, 529)], [2], true, [(2, (0, 0, 2147483647, 529, 0, 0, 0))])]),
  (92, [(42, false, 337, [(2, 337)], [2], true, [(2, (0, (-2147483648), 2147483647, 337, 0, 0, 0))])]),
  (93, [(2, true, 17, [(3, 17)], [3], true, [(3, (0, (-2147483648), 2147483647, 17, 0, 0, 0))])]),
  (98, [(2, true, 17, [(2, 17)], [2], true, [(2, (0, 0, 2147483647, 17, 0, 0, 0))])]),
  (99, [(18, true, 145, [(4, 145)], [4], true, [(4, (0, 0, 200000, 145, 0, 0, 0))])]),
  (100, [(2, true, 17, [(2, 17)], [2], true, [(2, (0, 0, 2147483647, 17, 0, 0, 0))])]),
  (102, [(2, true, 17, [(2, 17)], [2], true, [(2, (0, 0, 2147483647, 17, 0, 0, 0))])]),
  (103, [(12, true, 97, [(2, 97), (1, 98)], [1, 2], true, [(2, (0, 0, 2147483647, 97, 0, 0, 0)), (1, (0, (-2147483648), 2147483647, 98, 0, 0, 0))]),
    (54, true, 433, [(2, 433)], [2, 3, 4], true, [(2, (0, 0, 200000, 433, 0, 0, 0))]),
    (69, true, 553, [(3, 553)], [3, 4], true, [(3, (0, 0, 2147483647, 553, 0, 0, 0))])]),
  (104, [(18, true, 145, [(6, 145), (5, 146), (4, 147), (3, 148)], [3, 4, 5, 6], true, [(6, (0, (-2147483648), 2147483647, 145, 0, 0, 0)), (5, (0, (-2147483648), 2147483647, 146, 0, 0, 0)), (4, (0, (-2147483648), 400, 147, 0, 0, 0)), (3, (0, (-2147483648), 400, 148, 0, 0, 0))])]),
  (106, [(35, true, 281, [(3, 281), (2, 282)], [2, 3], true, [(3, (0, 0, 2147483647, 281, 0, 0, 0)), (2, (0, (-2147483648), 2147483647, 282, 0, 0, 0))])]),
  (108, [(4, true, 33, [(3, 33), (2, 34)], [2, 3], true, [(3, (0, 1, 2147483647, 33, 0, 0, 0)), (2, (0, 0, 2147483647, 34, 0, 0, 0))])]),
  (109, [(11, true, 89, [(3, 89), (2, 90)], [2, 3], true, [(3, (0, (-2147483648), 2147483647, 89, 0, 0, 0)), (2, (0, 0, 2147483647, 90, 0, 0, 0))])]),
  (111, [(16, false, 129, [(2, 129)], [2], true, [(2, (0, (-2147483648), 24, 129, 0, 0, 0))])]),
  (115, [(34, true, 273, [(4, 273), (3, 274)], [3, 4], true, [(4, (0, 0, 8, 273, 0, 0, 0)), (3, (0, 0, 1, 274, 0, 0, 0))])]),
  (123, [(14, true, 113, [(7, 113), (6, 114)], [6, 7], true, [(7, (0, 10, 401, 113, 0, 0, 0)), (6, (0, (-2147483648), 2147483647, 114, 0, 0, 0))])]),
  (126, [(17, true, 137, [(9, 137), (7, 138), (6, 139)], [6, 7, 9, 10, 11, 13, 14, 15], true, [(9, (0, 10, 401, 137, 0, 0, 0)), (7, (1, (-9223372036854775808), 1000000000000000, 138, 0, 0, 0)), (6, (0, (-2147483648), 2147483647, 139, 0, 0, 0))]),
    (30, true, 241, [(10, 241), (7, 242), (6, 243)], [6, 7, 10, 11, 13, 14, 15], true, [(10, (0, 10, 401, 241, 0, 0, 0)), (7, (1, (-9223372036854775808), 1000000000000000, 242, 0, 0, 0)), (6, (0, (-2147483648), 2147483647, 243, 0, 0, 0))]),
    (66, true, 529, [(14, 529), (13, 530), (7, 531), (6, 532)], [6, 7, 13, 14, 15], true, [(14, (0, 0, 80, 529, 0, 0, 0)), (13, (0, (-1), 400, 530, 0, 0, 0)), (7, (1, (-9223372036854775808), 1000000000000000, 531, 0, 0, 0)), (6, (0, (-2147483648), 2147483647, 532, 0, 0, 0))])]),
  (128, [(3, true, 25, [(4, 25)], [4], true, [(4, (0, 1, 401, 25, 0, 0, 0))])]),
  (130, [(20, true, 161, [(10, 161), (8, 162), (6, 163)], [6, 8, 10, 11, 13, 15], true, [(10, (0, 10, 401, 161, 0, 0, 0)), (8, (1, 10, 400, 162, 0, 0, 0)), (6, (1, 10, 400, 163, 0, 0, 0))]),
    (44, true, 353, [(13, 353), (8, 354), (6, 355)], [6, 8, 13, 15], true, [(13, (1, (-858993459200), 1000000000000, 353, 0, 0, 0)), (8, (1, 10, 400, 354, 0, 0, 0)), (6, (1, 10, 400, 355, 0, 0, 0))])]),
  (134, [(11, true, 89, [(4, 89)], [4], true, [(4, (0, 0, 2147483647, 89, 0, 0, 0))]),
    (62, true, 497, [(5, 497), (4, 498)], [4, 5], true, [(5, (0, 1, 400, 497, 0, 0, 0)), (4, (0, 0, 400, 498, 0, 0, 0))])]),
  (135, [(6, true, 49, [(6, 49)], [6, 7], true, [(6, (0, 10, 401, 49, 0, 0, 0))]),
    (19, true, 153, [(7, 153)], [7], true, [(7, (0, 10, 401, 153, 0, 0, 0))])]),
  (149, [(4, true, 33, [(2, 33), (1, 34)], [1, 2], true, [(2, (0, 0, 10, 33, 0, 0, 0)), (1, (0, (-2147483648), 2147483647, 34, 0, 0, 0))])]),
  (150, [(8, true, 65, [(5, 65), (4, 66), (3, 67)], [3, 4, 5], true, [(5, (0, 0, 2147483647, 65, 0, 0, 0)), (4, (0, (-1), 2147483647, 66, 0, 0, 0)), (3, (0, (-2147483648), 2147483647, 67, 0, 0, 0))]),
    (74, true, 593, [(5, 593)], [5, 6, 7, 9], true, [(5, (0, 0, 2147483647, 593, 0, 0, 0))])]),
  (163, [(36, true, 289, [(4, 289), (3, 290)], [3, 4, 5, 7], true, [(4, (0, 1, 100, 289, 0, 0, 0)), (3, (0, 0, 99, 290, 0, 0, 0))])]),
  (168, [(5, true, 41, [(4, 41), (2, 42)], [2, 4, 5], true, [(4, (0, 0, 2147483647, 41, 0, 0, 0)), (2, (1, (-9223372036854775808), 1000000000, 42, 0, 0, 0))])]),
  (169, [(3, true, 25, [(4, 25)], [4], true, [(4, (0, 0, 2147483647, 25, 0, 0, 0))])]),
  (171, [(3, true, 25, [(4, 25)], [4, 5], true, [(4, (0, 0, 4, 25, 0, 0, 0))]),
    (76, true, 609, [(5, 609), (4, 610)], [4, 5], true, [(5, (0, 0, 2147483647, 609, 0, 0, 0)), (4, (0, (-2147483648), 2147483647, 610, 0, 0, 0))]),
    (142, true, 1137, [(6, 1137), (5, 1138)], [5, 6], true, [(6, (0, 1, 10000, 1137, 0, 0, 0)), (5, (0, (-2147483648), 2147483647, 1138, 0, 0, 0))])]),
  (173, [(9, false, 73, [(3, 73), (2, 74)], [2, 3], true, [(3, (0, (-2147483648), 2147483647, 73, 0, 0, 0)), (2, (0, (-2147483648), 2147483647, 74, 0, 0, 0))])]),
  (175, [(2, true, 17, [(3, 17)], [3], true, [(3, (0, 0, 8, 17, 0, 0, 0))])]),
  (176, [(9, false, 73, [(2, 73)], [2, 3, 4, 5], true, [(2, (0, (-2147483648), 2147483647, 73, 0, 0, 0))]),
    (36, true, 289, [(5, 289), (4, 290)], [4, 5], true, [(5, (0, 0, 2147483647, 289, 0, 0, 0)), (4, (0, (-2147483648), 2147483647, 290, 0, 0, 0))])]),
  (178, [(9, true, 73, [(4, 73), (3, 74)], [3, 4, 5, 6], true, [(4, (0, 0, 2147483647, 73, 0, 0, 0)), (3, (0, (-2147483648), 2147483647, 74, 0, 0, 0))]),
    (24, true, 193, [(6, 193), (5, 194), (3, 195)], [3, 5, 6], true, [(6, (0, 0, 2147483647, 193, 0, 0, 0)), (5, (0, 0, 1, 194, 0, 0, 0)), (3, (0, (-2147483648), 2147483647, 195, 0, 0, 0))])]),
  (186, [(4, true, 33, [(3, 33), (2, 34)], [2, 3], true, [(3, (0, 0, 223, 33, 0, 0, 0)), (2, (0, (-2147483648), 2147483647, 34, 0, 0, 0))])]),
  (187, [(4, true, 33, [(3, 33), (2, 34)], [2, 3, 4, 5], true, [(3, (0, 0, 20, 33, 0, 0, 0)), (2, (0, (-2147483648), 2147483647, 34, 0, 0, 0))])]),
  (189, [(14, true, 113, [(4, 113), (3, 114), (300001, 115), (2, 116)], [2, 3, 4, 5], true, [(4, (0, 1, 223, 113, 0, 0, 0)), (3, (0, (-2147483648), 2147483647, 114, 0, 0, 0)), (300001, (0, 0, 20, 115, 0, 0, 0)), (2, (0, 0, 223, 116, 0, 0, 0))])]),
  (191, [(22, true, 177, [(2, 177)], [2], true, [(2, (0, 1, 2147483647, 177, 0, 0, 0))])]),
  (195, [(4, true, 33, [(3, 33), (2, 34)], [2, 3], true, [(3, (0, 0, 2147483647, 33, 0, 0, 0)), (2, (0, (-2147483648), 2147483647, 34, 0, 0, 0))])]),
  (196, [(5, true, 41, [(4, 41), (3, 42)], [3, 4, 5], true, [(4, (0, 0, 2147483647, 41, 0, 0, 0)), (3, (0, (-1), 2147483647, 42, 0, 0, 0))])]),
  (198, [(14, true, 113, [(4, 113), (3, 114), (2, 115)], [2, 3, 4, 5, 6], true, [(4, (0, 0, 12, 113, 0, 0, 0)), (3, (0, (-2147483648), 2147483647, 114, 0, 0, 0)), (2, (0, (-2147483648), 2147483647, 115, 0, 0, 0))]),
    (40, true, 321, [(6, 321), (2, 322)], [2, 6], true, [(6, (0, 0, 2147483647, 321, 0, 0, 0)), (2, (0, (-2147483648), 2147483647, 322, 0, 0, 0))])]),
  (199, [(4, true, 33, [(3, 33), (2, 34)], [2, 3, 4], true, [(3, (0, 0, 2147483647, 33, 0, 0, 0)), (2, (0, (-1), 2147483647, 34, 0, 0, 0))])]),
  (202, [(2, true, 17, [(2, 17)], [2], false, [(2, (0, 0, 16, 17, 0, 0, 0))])]),
  (206, [(4, true, 33, [(3, 33), (2, 34)], [2, 3, 4], true, [(3, (0, 0, 14, 33, 0, 0, 0)), (2, (0, (-2147483648), 2147483647, 34, 0, 0, 0))])]),
  (219, [(43, true, 345, [(7, 345), (6, 346), (5, 347)], [5, 6, 7, 8], true, [(7, (0, 0, 14, 345, 0, 0, 0)), (6, (0, (-2147483648), 2147483647, 346, 0, 0, 0)), (5, (0, (-2147483648), 2147483647, 347, 0, 0, 0))])]),
  (229, []),
  (257, [(57, true, 457, [(5, 457), (4, 458), (3, 459)], [3, 4, 5, 6, 7, 8, 9], true, [(5, (0, 10, 401, 457, 0, 0, 0)), (4, (0, 0, 2000, 458, 0, 0, 0)), (3, (0, (-2147483648), 2147483647, 459, 0, 0, 0))]),
    (79, true, 633, [(6, 633), (4, 634), (3, 635)], [3, 4, 6, 7, 8, 9], true, [(6, (0, 1, 401, 633, 0, 0, 0)), (4, (0, 0, 2000, 634, 0, 0, 0)), (3, (0, (-2147483648), 2147483647, 635, 0, 0, 0))]),
    (103, true, 825, [(7, 825), (4, 826), (3, 827)], [3, 4, 7, 8, 9], true, [(7, (0, 10, 401, 825, 0, 0, 0)), (4, (0, 0, 2000, 826, 0, 0, 0)), (3, (0, (-2147483648), 2147483647, 827, 0, 0, 0))]),
    (249, true, 1993, [(5, 1993), (300006, 1994)], [5], true, [(5, (0, 0, 4, 1993, 0, 0, 0)), (300006, (0, 0, 4, 1994, 0, 1993, 0))])]),
  (261, [(40, true, 321, [(2, 321)], [2], false, [(2, (0, 0, 401, 321, 0, 0, 0))]),
    (62, true, 497, [(2, 497)], [2, 3, 4, 5], true, [(2, (0, 0, 8, 497, 0, 0, 0))]),
    (86, true, 689, [(3, 689)], [3, 4, 5], true, [(3, (0, 10, 401, 689, 0, 0, 0))]),
    (97, true, 777, [(4, 777)], [4, 5], true, [(4, (0, 10, 401, 777, 0, 0, 0))]),
    (142, true, 1137, [(5, 1137)], [5], true, [(5, (0, 10, 401, 1137, 0, 0, 0))]),
    (237, true, 1897, [(3, 1897), (2, 1898)], [2, 3], true, [(3, (0, 10, 401, 1897, 0, 0, 0)), (2, (0, 10, 400, 1898, 0, 0, 0))])]),
  (266, [(9, true, 73, [(2, 73), (1, 74)], [1, 2, 3, 4, 5], true, [(2, (0, 0, 10, 73, 0, 0, 0)), (1, (0, (-2147483648), 2147483647, 74, 0, 0, 0))]),
    (24, true, 193, [(5, 193), (4, 194), (3, 195)], [3, 4, 5], true, [(5, (0, 0, 14, 193, 0, 0, 0)), (4, (0, (-1), 9, 194, 0, 0, 0)), (3, (0, 0, 10, 195, 0, 0, 0))]),
    (82, true, 657, [(5, 657), (1, 658)], [1, 5], true, [(5, (0, 0, 14, 657, 0, 0, 0)), (1, (0, (-2147483648), 2147483647, 658, 0, 0, 0))])]),
  (271, [(49, true, 393, [(6, 393), (4, 394), (3, 395)], [3, 4, 6, 7], true, [(6, (0, 1, 100, 393, 0, 0, 0)), (4, (1, 0, 200000, 394, 0, 0, 0)), (3, (0, 0, 99, 395, 0, 0, 0))])]),
  (279, [(28, true, 225, [(3, 225), (300005, 226)], [3], true, [(3, (0, 0, 4, 225, 0, 0, 0)), (300005, (0, 0, 0, 226, 0, 225, 0))]),
    (96, true, 769, [(4, 769), (3, 770), (300005, 771)], [3, 4], true, [(4, (0, 0, 8, 769, 0, 0, 0)), (3, (0, (-2147483648), 2147483647, 770, 0, 0, 0)), (300005, (0, 0, 0, 771, 0, 769, 0))]),
    (153, true, 1225, [(5, 1225), (4, 1226), (300005, 1227)], [4, 5], true, [(5, (0, 1, 10000, 1225, 0, 0, 0)), (4, (0, (-2147483648), 2147483647, 1226, 0, 0, 0)), (300005, (0, 0, 0, 1227, 0, 1225, (-1)))])]),
  (280, [(7, false, 57, [(4, 57), (3, 58)], [3, 4], false, [(4, (0, (-1), 3, 57, 0, 0, 0)), (3, (0, 0, 2000, 58, 0, 0, 0))])]),
  (281, [(17, true, 137, [(2, 137), (300005, 138)], [2], true, [(2, (0, 0, 8, 137, 0, 0, 0)), (300005, (0, 0, 0, 138, 0, 137, 0))])]),
  (282, [(20, true, 161, [(4, 161), (300006, 162), (300005, 163)], [4], true, [(4, (0, 0, 8, 161, 0, 0, 0)), (300006, (0, 0, 8, 161, 0, 0, 0)), (300005, (0, 0, 0, 163, 0, 161, 0))]),
    (58, true, 465, [(4, 465), (300005, 466)], [4], true, [(4, (0, 0, 8, 465, 0, 0, 0)), (300005, (0, 0, 0, 466, 0, 465, 0))])]),
  (287, [(4, true, 33, [(3, 33), (2, 34)], [2, 3], false, [(3, (0, 0, 20, 33, 0, 0, 0)), (2, (0, (-2147483648), 2147483647, 34, 0, 0, 0))])]),
  (288, [(9, true, 73, [(2, 73), (1, 74)], [1, 2], true, [(2, (0, 1, 223, 73, 0, 0, 0)), (1, (0, 0, 223, 74, 0, 0, 0))])]),
  (289, [(29, true, 233, [(2, 233)], [2], false, [(2, (0, 1, 8, 233, 0, 0, 0))])]),
  (291, [(9, true, 73, [(2, 73), (1, 74)], [1, 2, 3, 4], true, [(2, (0, 0, 12, 73, 0, 0, 0)), (1, (0, (-2147483648), 2147483647, 74, 0, 0, 0))]),
    (22, true, 177, [(4, 177), (3, 178), (300013, 179)], [3, 4], true, [(4, (0, 0, 14, 177, 0, 0, 0)), (3, (0, 0, 1, 178, 0, 0, 0)), (300013, (0, 1, 12, 179, 0, 0, 0))]),
    (100, true, 801, [(3, 801), (2, 802), (300013, 803)], [2, 3, 4, 5, 6, 7], true, [(3, (0, 0, 2147483647, 801, 0, 0, 0)), (2, (0, (-2147483648), 2147483647, 802, 0, 0, 0)), (300013, (0, 0, 12, 803, 0, 0, 0))]),
    (136, true, 1089, [(5, 1089), (4, 1090), (300013, 1091)], [4, 5, 6, 7], true, [(5, (0, 0, 12, 1089, 0, 0, 0)), (4, (0, 0, 1, 1090, 0, 0, 0)), (300013, (0, 0, 12, 1091, 0, 0, 0))]),
    (156, true, 1249, [(7, 1249), (6, 1250), (300013, 1251)], [6, 7], true, [(7, (0, 0, 14, 1249, 0, 0, 0)), (6, (0, 0, 1, 1250, 0, 0, 0)), (300013, (0, 1, 12, 1251, 0, 0, 0))])])]
def y_Alook (j : Nat) : List (Nat × List y_B) → List y_B
  | [] => []
  | (i, a) :: t => bif Nat.beq i j then a else y_Alook j t
def y_An (j : Nat) : List y_B := y_Alook j y_Atab
def y_hand : Nat → y_Call := fun _ _ _ _ => none
end
section
-- the table of roles is right
def y_gloB (k : Nat) : Bool := Nat.beq k 0 || (Nat.ble 200000 k && Nat.blt k 300000)
def y_RokB (R : y_R) : Bool := R.2.all (fun p => Nat.ble 200000 p.1 && (match R.1[p.2.1]? with
  | some ro => !ro.1
  | none => true)) && (R.2.all (fun p => R.2.all (fun p' => !(Nat.beq p.1 p'.1 || (Nat.beq p.2.1 p'.2.1 && Nat.beq p.2.2 p'.2.2)) || (Nat.beq p.1 p'.1 && (Nat.beq p.2.1 p'.2.1 && Nat.beq p.2.2 p'.2.2)))) && R.1.all (fun ro => y_gloB ro.2.2.2.1 && ro.2.2.2.2.all (fun v => y_gloB v.2.2.2.1 && y_gloB v.2.2.2.2.2.1)))
theorem y_gloB_ok {k : Nat} (h : y_gloB k = true) : y_glo k := by
  unfold y_gloB at h
  simp only [Bool.or_eq_true, Bool.and_eq_true, Nat.beq_eq, Nat.ble_eq, Nat.blt_eq] at h
  exact h
theorem y_RokB_ok {R : y_R} (h : y_RokB R = true) : y_Rok R := by
  unfold y_RokB at h
  simp only [Bool.and_eq_true, List.all_eq_true] at h
  obtain ⟨h1, h2, h3⟩ := h
  refine ⟨fun p hp => ⟨Nat.le_of_ble_eq_true (h1 p hp).1, fun ro hro => ?_⟩, fun p hp p' hp' e => ?_, fun ro hro => ⟨y_gloB_ok (h3 ro hro).1, fun v hv => ⟨y_gloB_ok ((h3 ro hro).2 v hv).1, y_gloB_ok ((h3 ro hro).2 v hv).2⟩⟩⟩
  · have := (h1 p hp).2
    rw [hro] at this
    simpa using this
  · have := h2 p hp p' hp'
    simp only [Bool.or_eq_true, Bool.and_eq_true, Nat.beq_eq, Bool.not_eq_true'] at this
    rcases this with h | h
    · exfalso
      rw [Bool.or_eq_false_iff] at h
      rcases e with e | e
      · rw [e, Nat.beq_eq.mpr rfl] at h
        cases h.1
      · rw [e, Nat.beq_eq.mpr rfl, Nat.beq_eq.mpr rfl] at h
        cases h.2
    · exact Prod.ext h.1 (Prod.ext h.2.1 h.2.2)
theorem y_Rc_ok : y_Rok y_Rc := y_RokB_ok (by decide +kernel)
/-- nothing told by hand -/
theorem y_hand_ok (R : y_R) (d : Nat) : y_CS R (y_hand d) (g_run (d + 1)) := by
  intro j vs N outs e
  cases e
end
section
-- a machine over numbers: every number is an integer told by a term, cells have fixed places, a run is a proposition
/-- a value: kind (0 int, 1 long, 2 a cell, 3 a cell or null, 4 null, 5 double), place of the cell, bounds, the number (of kind 3: the place, below 0: null) -/
abbrev xa_V : Type := Nat × Nat × Int × Int × Int
abbrev xa_L : Type := List (Nat × xa_V)
/-- the memory: place, index, number -/
abbrev xa_M : Type := Nat → Int → Int
/-- of a place: its role, and where its fields lead -/
abbrev xa_I : Type := Nat → Option (y_R1 × (Nat → Nat))
def xa_g (A : Nat → Nat) (v : xa_V) (x : Value) : Prop := match v with
  | (0, _, lo, hi, n) => ∃ m : Int32, x = .int m ∧ m.toInt = n ∧ lo ≤ n ∧ n ≤ hi
  | (1, _, lo, hi, n) => ∃ m : Int64, x = .long m ∧ m.toInt = n ∧ lo ≤ n ∧ n ≤ hi
  | (2, q, _) => x = .ref (A q)
  | (3, _, _, _, n) => x = (if n < 0 then .null else .ref (A n.toNat))
  | (4, _) => x = .null
  | (5, _, _, _, n) => ∃ m : UInt64, x = .double m ∧ (m.toNat : Int) = n
  | _ => False
def xa_cw (sp : y_V) (s : Nat) (m : Int) : xa_V := match sp with
  | (0, lo, hi, _) => (0, 0, lo, hi, m)
  | (1, lo, hi, _) => (1, 0, lo, hi, m)
  | (2, _) => (2, s, 0, 0, 0)
  | (3, _) => (3, 0, 0, 0, m)
  | _ => (9, 0, 0, 0, 0)
/-- what a place may hold: of an array with a limit what those behind it may hold -/
def xa_sp (ro : y_R1) (j : Nat) : y_V := bif ro.1 then (bif Nat.beq ro.2.2.2.1 0 then y_sp ro 0 else y_sp ro 1) else y_sp ro j
def xa_cv (ro : y_R1) (S : Nat → Nat) (m : Int → Int) (j : Nat) : xa_V := xa_cw (xa_sp ro j) (S j) (m (j : Int))
def xa_H (I : xa_I) (A : Nat → Nat) (M : xa_M) (h0 h : g_H) : Prop := h.length = h0.length ∧ (∀ q ro S, I q = some (ro, S) → ∃ f : Nat → Value, h[q]? = some (A q, ro.1, ro.2.1, ro.2.2.1, f) ∧ ∀ j, j < ro.2.2.1 → xa_g A (xa_cv ro S (M q) j) (f j)) ∧ ∀ q, I q = none → h[q]? = h0[q]?
def xa_gL (A : Nat → Nat) (L : xa_L) (Ls : g_L) : Prop := ∀ p ∈ L, ∃ x, (p.1, x) ∈ Ls ∧ xa_g A p.2 x
def xa_gS (A : Nat → Nat) : List xa_V → List Value → Prop
  | [], [] => True
  | v :: vs, x :: xs => xa_g A v x ∧ xa_gS A vs xs
  | _, _ => False
def xa_gR (A : Nat → Nat) (o : Option xa_V) (x : Option Value) : Prop := match o with
  | none => x = none
  | some v => ∃ y, x = some y ∧ xa_g A v y
def xa_up (M : xa_M) (q : Nat) (j v : Int) : xa_M := fun q' j' => if q' = q ∧ j' = j then v else M q' j'
def xa_if (b : Bool) (p : Prop) : Prop := bif b then p else False
def xa_ob (b : Bool) (c k : Prop) : Prop := bif b then k else c ∧ k
abbrev xa_K : Type := List s_I → xa_L → List xa_V → xa_M → Prop
abbrev xa_C0 : Type := Nat → List xa_V → xa_M → (Option xa_V → xa_M → Prop) → Prop
def xa_c2 (v : xa_V) : Bool := Nat.beq v.1 1 || Nat.beq v.1 5
def xa_find : xa_L → Nat → Option xa_V
  | [], _ => none
  | (j, v) :: t, i => bif Nat.beq j i then some v else xa_find t i
def xa_fil1 (i : Nat) : xa_L → xa_L
  | [] => []
  | (j, u) :: t => bif (Nat.beq j i || (Nat.beq (j + 1) i && xa_c2 u)) then xa_fil1 i t else (j, u) :: xa_fil1 i t
def xa_fil2 (i : Nat) : xa_L → xa_L
  | [] => []
  | (j, u) :: t => bif (Nat.beq j i || (Nat.beq j (i + 1) || (Nat.beq (j + 1) i && xa_c2 u))) then xa_fil2 i t else (j, u) :: xa_fil2 i t
def xa_tk (kd : Nat) (v : xa_V) : Bool := match kd with
  | 0 => Nat.beq v.1 0
  | 1 => Nat.beq v.1 1
  | _ => Nat.ble 2 v.1 && Nat.ble v.1 4
def xa_isI (v : xa_V) : Bool := Nat.beq v.1 0
def xa_isL (v : xa_V) : Bool := Nat.beq v.1 1
-- arithmetic
def xa_w32 (n : Int) : Int := n.bmod 4294967296
def xa_w64 (n : Int) : Int := n.bmod 18446744073709551616
def xa_mk32 (lo hi n : Int) : xa_V := bif y_in32 lo hi then (0, 0, lo, hi, n) else (0, 0, -2147483648, 2147483647, xa_w32 n)
def xa_mk64 (lo hi n : Int) : xa_V := bif y_in64 lo hi then (1, 0, lo, hi, n) else (1, 0, -9223372036854775808, 9223372036854775807, xa_w64 n)
/-- the other operations on ints, by the machine's own words -/
def xa_ib (a : Nat) (x y : Int) : Int := (s_fib a (Int32.ofInt x) (Int32.ofInt y)).toInt
def xa_mlo (a b c d : Int) : Int := s_min (s_min (a * c) (a * d)) (s_min (b * c) (b * d))
def xa_mhi (a b c d : Int) : Int := s_max (s_max (a * c) (a * d)) (s_max (b * c) (b * d))
def xa_bin32 (a : Nat) (x y : xa_V) : xa_V := match a with
  | 0 => xa_mk32 (x.2.2.1 + y.2.2.1) (x.2.2.2.1 + y.2.2.2.1) (x.2.2.2.2 + y.2.2.2.2)
  | 1 => xa_mk32 (x.2.2.1 - y.2.2.2.1) (x.2.2.2.1 - y.2.2.1) (x.2.2.2.2 - y.2.2.2.2)
  | 2 => xa_mk32 (xa_mlo x.2.2.1 x.2.2.2.1 y.2.2.1 y.2.2.2.1) (xa_mhi x.2.2.1 x.2.2.2.1 y.2.2.1 y.2.2.2.1) (x.2.2.2.2 * y.2.2.2.2)
  | a + 3 => (0, 0, -2147483648, 2147483647, xa_ib (a + 3) x.2.2.2.2 y.2.2.2.2)
def xa_bin64 (a : Nat) (x y : xa_V) : xa_V := match a with
  | 0 => xa_mk64 (x.2.2.1 + y.2.2.1) (x.2.2.2.1 + y.2.2.2.1) (x.2.2.2.2 + y.2.2.2.2)
  | 1 => xa_mk64 (x.2.2.1 - y.2.2.2.1) (x.2.2.2.1 - y.2.2.1) (x.2.2.2.2 - y.2.2.2.2)
  | _ => xa_mk64 (xa_mlo x.2.2.1 x.2.2.2.1 y.2.2.1 y.2.2.2.1) (xa_mhi x.2.2.1 x.2.2.2.1 y.2.2.1 y.2.2.2.1) (x.2.2.2.2 * y.2.2.2.2)
/-- quotients and rests by a number above 0: of numbers that are not below 0; of any -/
def xa_div32 (a : Nat) (x y : xa_V) : xa_V := bif decide (0 ≤ x.2.2.1) then (bif Nat.beq a 0 then (0, 0, 0, x.2.2.2.1, x.2.2.2.2 / y.2.2.2.2) else (0, 0, 0, y.2.2.2.1 - 1, x.2.2.2.2 % y.2.2.2.2)) else (bif Nat.beq a 0 then (0, 0, -2147483648, 2147483647, x.2.2.2.2.tdiv y.2.2.2.2) else (0, 0, -2147483648, 2147483647, x.2.2.2.2.tmod y.2.2.2.2))
def xa_div64 (a : Nat) (x y : xa_V) : xa_V := bif decide (0 ≤ x.2.2.1) then (bif Nat.beq a 0 then (1, 0, 0, x.2.2.2.1, x.2.2.2.2 / y.2.2.2.2) else (1, 0, 0, y.2.2.2.1 - 1, x.2.2.2.2 % y.2.2.2.2)) else (bif Nat.beq a 0 then (1, 0, -9223372036854775808, 9223372036854775807, x.2.2.2.2.tdiv y.2.2.2.2) else (1, 0, -9223372036854775808, 9223372036854775807, x.2.2.2.2.tmod y.2.2.2.2))
def xa_i8 (n : Int) : Int := ((Int32.ofInt n).toInt8.toInt32).toInt
def xa_i16 (n : Int) : Int := ((Int32.ofInt n).toInt16.toInt32).toInt
def xa_cd (cd : Nat) (x y : Int) : Prop := match cd with
  | 0 => x = y
  | 1 => ¬ x = y
  | 2 => x < y
  | 3 => y ≤ x
  | 4 => y < x
  | _ => x ≤ y
/-- what bounds decide: 1 it holds, 2 it doesn't -/
def xa_dc (cd : Nat) (a b c d : Int) : Nat := match cd with
  | 0 => bif decide (b < c) || decide (d < a) then 2 else bif decide (a = b) && (decide (c = d) && decide (a = c)) then 1 else 0
  | 1 => bif decide (b < c) || decide (d < a) then 1 else bif decide (a = b) && (decide (c = d) && decide (a = c)) then 2 else 0
  | 2 => bif decide (b < c) then 1 else bif decide (d ≤ a) then 2 else 0
  | 3 => bif decide (d ≤ a) then 1 else bif decide (b < c) then 2 else 0
  | 4 => bif decide (d < a) then 1 else bif decide (b ≤ c) then 2 else 0
  | _ => bif decide (b ≤ c) then 1 else bif decide (d < a) then 2 else 0
-- steps
section XA1
variable (I : xa_I) (ft : s_FT) (mi : List s_MI) (C : xa_C0) (full : List s_I) (nL : Nat) (next : xa_K)
def xa_q0 (t : List s_I) (L : xa_L) (st : List xa_V) (M : xa_M) (a : Nat) (v : Int) : Prop := match a with
  | 0 => xa_if (y_in32 v v) (next t L ((0, 0, v, v, v) :: st) M)
  | 1 => xa_if (y_in64 v v) (next t L ((1, 0, v, v, v) :: st) M)
  | 4 => next t L ((4, 0, 0, 0, 0) :: st) M
  | _ => False
def xa_q1 (t : List s_I) (L : xa_L) (st : List xa_V) (M : xa_M) (a b : Nat) : Prop := match xa_find L a with
  | some v => xa_if (xa_tk b v) (next t L (v :: st) M)
  | none => False
def xa_q2 (t : List s_I) (L : xa_L) (st : List xa_V) (M : xa_M) (a b : Nat) : Prop := match st with
  | v :: rest => xa_if (xa_tk b v && (Nat.blt a nL && !xa_c2 v)) (next t ((a, v) :: xa_fil1 a L) rest M)
  | [] => False
def xa_q3 (t : List s_I) (L : xa_L) (st : List xa_V) (M : xa_M) (a b : Nat) : Prop := match st with
  | v :: rest => xa_if (xa_tk b v && (Nat.blt (a + 1) nL && xa_c2 v)) (next t ((a, v) :: xa_fil2 a L) rest M)
  | [] => False
def xa_q4 (t : List s_I) (L : xa_L) (st : List xa_V) (M : xa_M) (a : Nat) (n : Int) : Prop := match xa_find L a with
  | some u => xa_if (Nat.beq u.1 0 && (Nat.blt a nL && y_in32 n n)) (next t ((a, xa_bin32 0 u (0, 0, n, n, n)) :: xa_fil1 a L) st M)
  | none => False
def xa_q5 (t : List s_I) (L : xa_L) (st : List xa_V) (M : xa_M) : Prop := match st with
  | v :: rest => xa_if (!xa_c2 v) (next t L (v :: v :: rest) M)
  | [] => False
def xa_q6 (t : List s_I) (L : xa_L) (st : List xa_V) (M : xa_M) : Prop := match st with
  | v :: rest => xa_if (!xa_c2 v) (next t L rest M)
  | [] => False
def xa_q7 (t : List s_I) (L : xa_L) (st : List xa_V) (M : xa_M) : Prop := match st with
  | v :: u :: rest => xa_if (!xa_c2 v && !xa_c2 u) (next t L (v :: u :: v :: rest) M)
  | _ => False
def xa_q8 (t : List s_I) (L : xa_L) (st : List xa_V) (M : xa_M) : Prop := match st with
  | v :: u :: rest => bif xa_c2 v then next t L (v :: v :: u :: rest) M else xa_if (!xa_c2 u) (next t L (v :: u :: v :: u :: rest) M)
  | _ => False
def xa_q11 (t : List s_I) (L : xa_L) (st : List xa_V) (M : xa_M) (a : Nat) : Prop := match st with
  | y :: x :: rest => xa_if (xa_isI x && xa_isI y) (next t L (xa_bin32 a x y :: rest) M)
  | _ => False
def xa_q12 (t : List s_I) (L : xa_L) (st : List xa_V) (M : xa_M) (a : Nat) : Prop := match st with
  | y :: x :: rest => xa_if (xa_isI x && xa_isI y) (xa_ob (decide (0 < y.2.2.1)) (0 < y.2.2.2.2) (next t L (xa_div32 a x y :: rest) M))
  | _ => False
def xa_q13 (t : List s_I) (L : xa_L) (st : List xa_V) (M : xa_M) (a : Nat) : Prop := match st with
  | x :: rest => xa_if (xa_isI x) (match a with
    | 0 => xa_if (decide (-2147483648 < x.2.2.1)) (next t L ((0, 0, -x.2.2.2.1, -x.2.2.1, -x.2.2.2.2) :: rest) M)
    | 1 => next t L ((0, 0, -128, 127, xa_i8 x.2.2.2.2) :: rest) M
    | _ => next t L ((0, 0, -32768, 32767, xa_i16 x.2.2.2.2) :: rest) M)
  | _ => False
def xa_q14 (t : List s_I) (L : xa_L) (st : List xa_V) (M : xa_M) (a : Nat) : Prop := match st with
  | y :: x :: rest => xa_if (xa_isL x && xa_isL y) (next t L (xa_bin64 a x y :: rest) M)
  | _ => False
def xa_q15 (t : List s_I) (L : xa_L) (st : List xa_V) (M : xa_M) (a : Nat) : Prop := match st with
  | y :: x :: rest => xa_if (xa_isL x && xa_isL y) (xa_ob (decide (0 < y.2.2.1)) (0 < y.2.2.2.2) (next t L (xa_div64 a x y :: rest) M))
  | _ => False
def xa_q16 (t : List s_I) (L : xa_L) (st : List xa_V) (M : xa_M) : Prop := match st with
  | x :: rest => xa_if (xa_isL x) (bif decide (-9223372036854775808 < x.2.2.1) then next t L ((1, 0, -x.2.2.2.1, -x.2.2.1, -x.2.2.2.2) :: rest) M else next t L ((1, 0, -9223372036854775808, 9223372036854775807, xa_w64 (-x.2.2.2.2)) :: rest) M)
  | _ => False
def xa_q17 (t : List s_I) (L : xa_L) (st : List xa_V) (M : xa_M) : Prop := match st with
  | x :: rest => xa_if (xa_isI x) (next t L ((1, 0, x.2.2.1, x.2.2.2.1, x.2.2.2.2) :: rest) M)
  | _ => False
def xa_q18 (t : List s_I) (L : xa_L) (st : List xa_V) (M : xa_M) : Prop := match st with
  | x :: rest => xa_if (xa_isL x) (next t L (xa_mk32 x.2.2.1 x.2.2.2.1 x.2.2.2.2 :: rest) M)
  | _ => False
def xa_jp (pc : Nat) (L : xa_L) (st : List xa_V) (M : xa_M) : Prop := match s_jump full pc with
  | some c => next c L st M
  | none => False
def xa_br (r : s_I) (t : List s_I) (tgt cd : Nat) (x y : xa_V) (L : xa_L) (rest : List xa_V) (M : xa_M) : Prop := match xa_dc cd x.2.2.1 x.2.2.2.1 y.2.2.1 y.2.2.2.1 with
  | 1 => xa_jp full next tgt L rest M
  | 2 => xa_if (s_go r t) (next t L rest M)
  | _ => (xa_cd cd x.2.2.2.2 y.2.2.2.2 → xa_jp full next tgt L rest M) ∧ (xa_cd (y_neg cd) x.2.2.2.2 y.2.2.2.2 → xa_if (s_go r t) (next t L rest M))
def xa_q19 (t : List s_I) (L : xa_L) (st : List xa_V) (M : xa_M) : Prop := match st with
  | y :: x :: rest => match t with
    | (pc, len, q, kd, a, b, v, ins) :: t' => xa_if (xa_isL x && (xa_isL y && Nat.beq q 21)) (xa_br full next (pc, len, q, kd, a, b, v, ins) t' a b x y L rest M)
    | [] => False
  | _ => False
def xa_q21 (r : s_I) (t : List s_I) (L : xa_L) (st : List xa_V) (M : xa_M) (a b : Nat) : Prop := match st with
  | x :: rest => xa_if (xa_isI x) (xa_br full next r t a b x (0, 0, 0, 0, 0) L rest M)
  | _ => False
def xa_q22 (r : s_I) (t : List s_I) (L : xa_L) (st : List xa_V) (M : xa_M) (a b : Nat) : Prop := match st with
  | y :: x :: rest => xa_if (xa_isI x && xa_isI y) (xa_br full next r t a b x y L rest M)
  | _ => False
/-- is it null -/
def xa_q23 (r : s_I) (t : List s_I) (L : xa_L) (st : List xa_V) (M : xa_M) (a : Nat) (nn : Bool) : Prop := match st with
  | x :: rest => match x.1 with
    | 2 => bif nn then xa_jp full next a L rest M else xa_if (s_go r t) (next t L rest M)
    | 4 => bif nn then xa_if (s_go r t) (next t L rest M) else xa_jp full next a L rest M
    | 3 => bif nn then (0 ≤ x.2.2.2.2 → xa_jp full next a L rest M) ∧ (x.2.2.2.2 < 0 → xa_if (s_go r t) (next t L rest M)) else (x.2.2.2.2 < 0 → xa_jp full next a L rest M) ∧ (0 ≤ x.2.2.2.2 → xa_if (s_go r t) (next t L rest M))
    | _ => False
  | _ => False
def xa_swt (pc : Nat) (L : xa_L) (rest : List xa_V) (M : xa_M) (x : Int) : Int → List Int → Prop
  | _, [] => True
  | i, off :: os => (x = i → match s_tgt pc off with
    | some p => xa_jp full next p L rest M
    | none => False) ∧ xa_swt pc L rest M x (i + 1) os
def xa_q25 (pc : Nat) (L : xa_L) (st : List xa_V) (M : xa_M) (ins : Instr) : Prop := match ins with
  | .tableswitch dflt lo hi offs => match st with
    | x :: rest => xa_if (xa_isI x && decide ((hi - lo + 1).toNat ≤ offs.size)) ((x.2.2.2.2 < lo ∨ hi < x.2.2.2.2 → match s_tgt pc dflt with
      | some p => xa_jp full next p L rest M
      | none => False) ∧ xa_swt full next pc L rest M x.2.2.2.2 lo offs.toList)
    | _ => False
  | _ => False
def xa_ro (u : xa_V) : Option (Nat × y_R1 × (Nat → Nat)) := match u with
  | (2, q, _) => match I q with
    | some p => some (q, p)
    | none => none
  | (3, _, _, _, n) => match n with
    | .ofNat q => match I q with
      | some p => some (q, p)
      | none => none
    | .negSucc _ => none
  | _ => none
def xa_q26 (t : List s_I) (L : xa_L) (st : List xa_V) (M : xa_M) (kd a b : Nat) : Prop := match st with
  | u :: rest => match xa_ro I u with
    | some (q, ro, S) => xa_if (Nat.ble kd 1 && (!ro.1 && (Nat.beq ro.2.1 a && Nat.blt b ro.2.2.1))) (next t L (xa_cv ro S (M q) b :: rest) M)
    | none => False
  | _ => False
def xa_fty (ty : Nat) (v : xa_V) (sp : y_V) : Bool := match ty with
  | 0 => Nat.beq v.1 0 && Nat.beq sp.1 0
  | 1 => Nat.beq v.1 1 && Nat.beq sp.1 1
  | 2 => Nat.beq v.1 0 && (Nat.beq sp.1 0 && (decide (0 ≤ sp.2.1) && decide (sp.2.2.1 ≤ 1)))
  | _ => false
def xa_q27 (t : List s_I) (L : xa_L) (st : List xa_V) (M : xa_M) (kd a b : Nat) : Prop := match st with
  | v :: u :: rest => match xa_ro I u with
    | some (q, ro, _) => match (ft.getD a []).getD b (9, true) with
      | (ty, fin) => xa_if (Nat.ble kd 1 && (!ro.1 && (Nat.beq ro.2.1 a && (Nat.blt b ro.2.2.1 && (xa_fty ty v (xa_sp ro b) && !fin))))) (xa_ob (decide ((xa_sp ro b).2.1 ≤ v.2.2.1) && decide (v.2.2.2.1 ≤ (xa_sp ro b).2.2.1)) ((xa_sp ro b).2.1 ≤ v.2.2.2.2 ∧ v.2.2.2.2 ≤ (xa_sp ro b).2.2.1) (next t L rest (xa_up M q (b : Int) v.2.2.2.2)))
    | none => False
  | _ => False
def xa_q28 (t : List s_I) (L : xa_L) (st : List xa_V) (M : xa_M) : Prop := match st with
  | u :: rest => match xa_ro I u with
    | some (_, ro, _) => xa_if (ro.1 && (Nat.blt ro.2.1 5 && Nat.ble ro.2.2.1 2147483647)) (next t L ((0, 0, (ro.2.2.1 : Int), (ro.2.2.1 : Int), (ro.2.2.1 : Int)) :: rest) M)
    | none => False
  | _ => False
def xa_q32 (t : List s_I) (L : xa_L) (st : List xa_V) (M : xa_M) (a : Nat) : Prop := match st with
  | j :: u :: rest => match xa_ro I u with
    | some (q, ro, _) => xa_if (ro.1 && (s_akd a ro.2.1 && (xa_isI j && y_ael ro.2.1 (xa_sp ro 0)))) (xa_ob (decide (0 ≤ j.2.2.1) && decide (j.2.2.2.1 < (ro.2.2.1 : Int))) (0 ≤ j.2.2.2.2 ∧ j.2.2.2.2 < (ro.2.2.1 : Int)) (next t L (xa_cw (xa_sp ro 0) 0 (M q j.2.2.2.2) :: rest) M))
    | none => False
  | _ => False
def xa_q33 (t : List s_I) (L : xa_L) (st : List xa_V) (M : xa_M) (a : Nat) : Prop := match st with
  | v :: j :: u :: rest => match xa_ro I u with
    | some (q, ro, _) => xa_if (ro.1 && (s_akd a ro.2.1 && (Nat.blt ro.2.1 4 && (xa_isI j && (y_ael ro.2.1 (xa_sp ro 0) && Nat.beq v.1 (xa_sp ro 0).1))))) (xa_ob (decide (0 ≤ j.2.2.1) && decide (j.2.2.2.1 < (ro.2.2.1 : Int))) (0 ≤ j.2.2.2.2 ∧ j.2.2.2.2 < (ro.2.2.1 : Int)) (xa_ob (decide ((xa_sp ro 0).2.1 ≤ v.2.2.1) && decide (v.2.2.2.1 ≤ (xa_sp ro 0).2.2.1)) ((xa_sp ro 0).2.1 ≤ v.2.2.2.2 ∧ v.2.2.2.2 ≤ (xa_sp ro 0).2.2.1) (next t L rest (xa_up M q j.2.2.2.2 v.2.2.2.2))))
    | none => False
  | _ => False
def xa_tkn : Nat → List xa_V → List xa_V → Option (List xa_V × List xa_V)
  | 0, st, acc => some (acc, st)
  | n + 1, v :: st, acc => xa_tkn n st (v :: acc)
  | _ + 1, [], _ => none
def xa_sum : List xa_V → Nat
  | [] => 0
  | v :: vs => (bif xa_c2 v then 2 else 1) + xa_sum vs
def xa_rst (o : Option xa_V) (rest : List xa_V) : List xa_V := match o with
  | some v => v :: rest
  | none => rest
def xa_q35 (t : List s_I) (L : xa_L) (st : List xa_V) (M : xa_M) (kd a b : Nat) : Prop := match xa_tkn b st [] with
  | some (as, rest) => xa_if ((Nat.beq kd 4 || Nat.beq kd 5) && Nat.ble (xa_sum rest) 8) (C a as M (fun r M' => next t L (xa_rst r rest) M'))
  | none => False
def xa_q34 (t : List s_I) (L : xa_L) (st : List xa_V) (M : xa_M) (kd a b : Nat) : Prop := match xa_tkn b st [] with
  | some (as, rest) => match rest with
    | u :: rest => match xa_ro I u with
      | some (_, ro, _) => match mi[a]? with
        | some Q => xa_if ((Nat.beq kd 2 || Nat.beq kd 3) && (!ro.1 && (Nat.beq ro.2.1 Q.2.2.2.2.2 && Nat.ble (xa_sum rest) 8))) (C a (u :: as) M (fun r M' => next t L (xa_rst r rest) M'))
        | none => False
      | none => False
    | [] => False
  | none => False
/-- the step, ends apart -/
def xa_do (r : s_I) (t : List s_I) (L : xa_L) (st : List xa_V) (M : xa_M) : Prop := match r with
  | (_, _, q, kd, a, b, v, ins) =>
    bif Nat.blt q 19 then
      xa_if (s_go r t) (
        bif Nat.blt q 5 then
          bif Nat.blt q 2 then (bif Nat.beq q 0 then xa_q0 next t L st M a v else xa_q1 next t L st M a b)
          else bif Nat.blt q 4 then (bif Nat.beq q 2 then xa_q2 nL next t L st M a b else xa_q3 nL next t L st M a b)
          else xa_q4 nL next t L st M a v
        else bif Nat.blt q 11 then
          bif Nat.blt q 7 then (bif Nat.beq q 5 then xa_q5 next t L st M else xa_q6 next t L st M)
          else bif Nat.blt q 9 then (bif Nat.beq q 7 then xa_q7 next t L st M else xa_q8 next t L st M)
          else bif Nat.beq q 9 then xa_if (Nat.beq kd 10 && y_in32 v v) (next t L ((0, 0, v, v, v) :: st) M)
          else xa_if (Nat.beq kd 11 && y_in64 v v) (next t L ((1, 0, v, v, v) :: st) M)
        else bif Nat.blt q 16 then
          bif Nat.blt q 13 then (bif Nat.beq q 11 then xa_q11 next t L st M a else xa_q12 next t L st M a)
          else bif Nat.beq q 13 then xa_q13 next t L st M a
          else bif Nat.beq q 14 then xa_q14 next t L st M a else xa_q15 next t L st M a
        else bif Nat.beq q 16 then xa_q16 next t L st M else bif Nat.beq q 17 then xa_q17 next t L st M else xa_q18 next t L st M)
    else bif Nat.blt q 25 then
      bif Nat.beq q 19 then xa_if (s_go r t) (xa_q19 full next t L st M)
      else bif Nat.beq q 20 then xa_jp full next a L st M
      else bif Nat.beq q 21 then xa_q21 full next r t L st M a b
      else bif Nat.beq q 22 then xa_q22 full next r t L st M a b
      else xa_q23 full next r t L st M a (Nat.beq q 24)
    else bif Nat.beq q 25 then xa_q25 full next r.1 L st M ins
    else xa_if (s_go r t) (
      bif Nat.beq q 26 then xa_q26 I next t L st M kd a b
      else bif Nat.beq q 27 then xa_q27 I ft next t L st M kd a b
      else bif Nat.beq q 28 then xa_q28 I next t L st M
      else bif Nat.beq q 32 then xa_q32 I next t L st M a
      else bif Nat.beq q 33 then xa_q33 I next t L st M a
      else bif Nat.beq q 34 then xa_q34 I mi C next t L st M kd a b
      else bif Nat.beq q 35 then xa_q35 C next t L st M kd a b else False)
end XA1
/-- an end: the answer -/
def xa_rt (rt q : Nat) (RT : Option xa_V → xa_M → Prop) (st : List xa_V) (M : xa_M) : Prop := match st with
  | [] => xa_if (Nat.beq q 43 && Nat.beq rt 0) (RT none M)
  | [v] => bif Nat.beq q 40 && Nat.beq v.1 0 then (bif Nat.beq rt 1 then RT (some v) M else xa_if (Nat.beq rt 2) (xa_ob (decide (0 ≤ v.2.2.1) && decide (v.2.2.2.1 ≤ 1)) (0 ≤ v.2.2.2.2 ∧ v.2.2.2.2 ≤ 1) (RT (some v) M)))
    else bif Nat.beq q 41 && (Nat.beq rt 3 && Nat.beq v.1 1) then RT (some v) M
    else xa_if (Nat.beq q 42 && (Nat.beq rt 4 && (Nat.ble 2 v.1 && Nat.ble v.1 4))) (RT (some v) M)
  | _ => False
/-- a run up to one of the places -/
def xa_wp (I : xa_I) (ft : s_FT) (mi : List s_MI) (C : xa_C0) (RT : Option xa_V → xa_M → Prop) (Q : Nat → xa_L → List xa_V → xa_M → Prop) (cuts : List Nat) (full : List s_I) (nL rt : Nat) : Nat → xa_K
  | 0, _, _, _, _ => False
  | n + 1, code, L, st, M => match code with
    | [] => False
    | r :: t => bif Nat.ble 40 r.2.2.1 then xa_rt rt r.2.2.1 RT st M
      else xa_do I ft mi C full nL (fun c L st M => bif y_isn (s_pc c) cuts then Q (s_pc c) L st M else xa_wp I ft mi C RT Q cuts full nL rt n c L st M) r t L st M
end
