-- loops: a state that fits what holds at the head
section Y7
variable {φ : Nat → Nat → Value} {R : y_R} {W : y_W} {β : Nat → Int} {L inv : y_L} {Ls : g_L} {ms : List (Nat × Nat)} {a : y_A} {P : g_S → Prop}
theorem y_wit (hL : y_gL W β L Ls) : ∃ f : Nat → Value, ∀ key v, y_find L key = some v → y_at β Ls key (f key) ∧ y_g W β v (f key) := by
  have h : ∀ key, ∃ x, ∀ v, y_find L key = some v → y_at β Ls key x ∧ y_g W β v x := fun key => by
    cases e : y_find L key with
    | none => exact ⟨.null, fun v h => by cases h⟩
    | some v =>
      obtain ⟨x, h1, h2⟩ := hL _ (y_find_in e)
      exact ⟨x, fun v' h => by cases h; exact ⟨h1, h2⟩⟩
  exact ⟨fun key => (h key).choose, fun key => (h key).choose_spec⟩
def y_vn : Value → Int
  | .int n => n.toInt
  | .long n => n.toInt
  | _ => 0
theorem y_num_g {v : y_V} (hk : v.1 < 2) {x : Value} (h : y_g W β v x) : y_num β v (y_vn x) := by
  obtain ⟨t, lo, hi, r⟩ := v
  match t, hk, h with
  | 0, _, ⟨n, e, b1, b2, b3⟩ => subst e; exact ⟨b1, b2, b3⟩
  | 1, _, ⟨n, e, b1, b2, b3⟩ => subst e; exact ⟨b1, b2, b3⟩
theorem y_num_i {v w : y_V} (hk : v.1 < 2) (hw : w.1 = v.1) {x : Value} (h : y_g W β v x) {β' : Nat → Int} (hn : y_num β' w (y_vn x)) : y_g W β' w x := by
  obtain ⟨t, lo, hi, r⟩ := v
  obtain ⟨t', lo', hi', r'⟩ := w
  have hw' : t' = t := hw
  subst hw'
  match t', hk, h with
  | 0, _, ⟨n, e, _, _, _⟩ => subst e; exact ⟨n, rfl, hn.1, hn.2.1, hn.2.2⟩
  | 1, _, ⟨n, e, _, _, _⟩ => subst e; exact ⟨n, rfl, hn.1, hn.2.1, hn.2.2⟩
/-- the numbers that the loop's names stand for at the head -/
def y_new (β : Nat → Int) (f : Nat → Value) (ms : List (Nat × Nat)) : Nat → Int := fun k => match y_mk ms k with
  | some l => y_vn (f l)
  | none => β k
theorem y_mk_in {k l : Nat} : ∀ {ms : List (Nat × Nat)}, y_mk ms k = some l → (l, k) ∈ ms
  | [], h => by cases h
  | (l', i) :: t, h => by
    rw [y_mk] at h
    cases e : Nat.beq i k
    · rw [e, cond_false] at h
      exact List.mem_cons_of_mem _ (y_mk_in h)
    · rw [e, cond_true] at h
      cases h
      rw [Nat.beq_eq] at e
      subst e
      exact List.mem_cons_self
theorem y_new_none {f : Nat → Value} {k : Nat} (h : y_mk ms k = none) : y_new β f ms k = β k := by
  unfold y_new
  rw [h]
theorem y_new_some {f : Nat → Value} {k l : Nat} (h : y_mk ms k = some l) : y_new β f ms k = y_vn (f l) := by
  unfold y_new
  rw [h]
theorem y_new_out {f : Nat → Value} {i k : Nat} (hm : ∀ m ∈ ms, i ≤ m.2 ∧ m.2 < 100000) (h : k < i ∨ 100000 ≤ k) : y_new β f ms k = β k := by
  cases e : y_mk ms k with
  | none => exact y_new_none e
  | some l =>
    have := hm _ (y_mk_in e)
    have h1 : i ≤ k := this.1
    have h2 : k < 100000 := this.2
    omega
theorem y_deq_ok {v u : y_V} {c n m : Int} (h : y_deq v u c = true) (hv : y_num β v n) (hu : y_num β u m) : n = m + c := by
  unfold y_deq at h
  rw [Bool.or_eq_true] at h
  rcases h with h | h
  · simp only [Bool.and_eq_true, Bool.not_eq_true', decide_eq_true_eq] at h
    obtain ⟨h1, h2, h3⟩ := h
    have k1 := y_beq_ne h1
    rw [Nat.beq_eq] at h2
    have p1 := hv.2.2.1 k1
    have p2 := hu.2.2.1 (by rw [← h2]; exact k1)
    rw [← h2] at p2
    omega
  · simp only [Bool.and_eq_true, decide_eq_true_eq] at h
    have a1 := hv.1
    have a2 := hv.2.1
    have b1 := hu.1
    have b2 := hu.2.1
    omega
theorem y_dle_ok {v u : y_V} {c n m : Int} (h : y_dle v u c = true) (hv : y_num β v n) (hu : y_num β u m) : n ≤ m + c := by
  unfold y_dle at h
  rw [Bool.or_eq_true, Bool.or_eq_true] at h
  rcases h with h | h | h
  · simp only [Bool.and_eq_true, Bool.not_eq_true', decide_eq_true_eq] at h
    obtain ⟨h1, h2, h3⟩ := h
    have k1 := y_beq_ne h1
    rw [Nat.beq_eq] at h2
    have p1 := hv.2.2.1 k1
    have p2 := hu.2.2.1 (by rw [← h2]; exact k1)
    rw [← h2] at p2
    omega
  · simp only [Bool.and_eq_true, Bool.not_eq_true', decide_eq_true_eq] at h
    obtain ⟨h1, h2, h3⟩ := h
    have k1 := y_beq_ne h1
    rw [Nat.beq_eq] at h2
    have p1 := hv.2.2.2 k1
    have p2 := hu.2.2.1 (by rw [← h2]; exact k1)
    rw [← h2] at p2
    omega
  · rw [decide_eq_true_eq] at h
    have a2 := hv.2.1
    have b1 := hu.1
    omega
theorem y_fit_ok {f : Nat → Value} (hf : ∀ key v, y_find L key = some v → y_at β Ls key (f key) ∧ y_g W β v (f key)) (h : y_fit ms inv L = true) (hm : ∀ m ∈ ms, m.2 < 200000) : y_gL W (y_new β f ms) inv Ls := by
  unfold y_fit at h
  rw [Bool.and_eq_true, List.all_eq_true, List.all_eq_true] at h
  obtain ⟨hI, h⟩ := h
  have hmk : ∀ {k l : Nat}, y_mk ms k = some l → ∃ u, y_find L l = some u ∧ y_num β u (y_vn (f l)) ∧ y_new β f ms k = y_vn (f l) := by
    intro k l e
    have h1 := hI _ (y_mk_in e)
    unfold y_isI0 at h1
    split at h1
    next u eu =>
      rw [Nat.blt_eq] at h1
      exact ⟨u, eu, y_num_g h1 (hf _ _ eu).2, y_new_some e⟩
    next => cases h1
  intro q hq
  have h1 := h q hq
  unfold y_fit1 at h1
  split at h1
  next v ev =>
    obtain ⟨hx, hg⟩ := hf _ _ ev
    refine ⟨f q.1, ⟨hx.1, fun h0 => ?_⟩, ?_⟩
    · have e9 : y_new β f ms q.1 = β q.1 := by
        cases e : y_mk ms q.1 with
        | none => exact y_new_none e
        | some l =>
          have : q.1 < 200000 := hm _ (y_mk_in e)
          omega
      rw [e9]
      exact hx.2 h0
    · obtain ⟨key, t, lo, hi, k, c, k2, c2⟩ := q
      dsimp only at h1 ev hx hg ⊢
      cases e0 : Nat.blt t 2
      · rw [e0, cond_false] at h1
        have hy := y_le_ok h1 hg
        match t, e0, hy with
        | 2, _, hy => exact hy
        | 3, _, hy => exact hy
        | 4, _, hy => exact hy
      · rw [e0, cond_true] at h1
        simp only [Bool.and_eq_true, decide_eq_true_eq, Nat.beq_eq] at h1
        rw [Nat.blt_eq] at e0
        obtain ⟨a1, a2, a3, a4, a5⟩ := h1
        have hn := y_num_g (by rw [a1]; exact e0) hg
        have b1 := hn.1
        have b2 := hn.2.1
        refine y_num_i (v := v) (by rw [a1]; exact e0) a1.symm hg ⟨by show lo ≤ _; omega, by show _ ≤ hi; omega, fun h0 => ?_, fun h0 => ?_⟩
        · have h0' : k ≠ 0 := h0
          unfold y_fe at a4
          have hk : Nat.beq k 0 = false := by
            cases e : Nat.beq k 0
            · rfl
            · exact absurd (Nat.beq_eq.mp e) h0'
          rw [hk, cond_false] at a4
          show y_vn (f key) = y_new β f ms k + c
          split at a4
          next l el =>
            obtain ⟨u, eu, hu, e5⟩ := hmk el
            rw [e5]
            rw [Bool.or_eq_true] at a4
            rcases a4 with a4 | a4
            · rw [Bool.and_eq_true, Nat.beq_eq, decide_eq_true_eq] at a4
              obtain ⟨rfl, rfl⟩ := a4
              omega
            · rw [eu] at a4
              exact y_deq_ok a4 hn hu
          next el =>
            rw [y_new_none el]
            rw [Bool.and_eq_true, Nat.beq_eq, decide_eq_true_eq] at a4
            have := hn.2.2.1 (by rw [a4.1]; exact h0')
            rw [a4.1, a4.2] at this
            exact this
        · have h0' : k2 ≠ 0 := h0
          unfold y_fu at a5
          have hk : Nat.beq k2 0 = false := by
            cases e : Nat.beq k2 0
            · rfl
            · exact absurd (Nat.beq_eq.mp e) h0'
          rw [hk, cond_false] at a5
          show y_vn (f key) ≤ y_new β f ms k2 + c2
          split at a5
          next l el =>
            obtain ⟨u, eu, hu, e5⟩ := hmk el
            rw [e5]
            rw [Bool.or_eq_true] at a5
            rcases a5 with a5 | a5
            · rw [Bool.and_eq_true, Nat.beq_eq, decide_eq_true_eq] at a5
              obtain ⟨rfl, h5⟩ := a5
              omega
            · rw [eu] at a5
              exact y_dle_ok a5 hn hu
          next el =>
            rw [y_new_none el]
            rw [Bool.or_eq_true] at a5
            rcases a5 with a5 | a5
            · rw [Bool.and_eq_true, Nat.beq_eq, decide_eq_true_eq] at a5
              have := hn.2.2.2 (by rw [a5.1]; exact h0')
              rw [a5.1] at this
              omega
            · rw [Bool.and_eq_true, Nat.beq_eq, decide_eq_true_eq] at a5
              have := hn.2.2.1 (by rw [a5.1]; exact h0')
              rw [a5.1] at this
              omega
  next => cases h1
/-- a loop's annotation is right -/
def y_Aok (a : y_A) : Prop := 0 < a.2.2.1 ∧ (∀ m ∈ a.2.2.2.1, a.2.2.1 ≤ m.2 ∧ m.2 < 100000) ∧ ∃ l v, y_ctr a = some (l, v)
theorem y_ctr_eq {l : Nat} {v : y_V} (h : y_ctr a = some (l, v)) : y_mk a.2.2.2.1 a.2.2.1 = some l ∧ y_find a.2.2.2.2 l = some v ∧ v.1 < 2 ∧ v.2.2.2.1 = a.2.2.1 ∧ v.2.2.2.2.1 = 0 := by
  unfold y_ctr at h
  split at h
  next pc up i l' i' t inv =>
    split at h
    next w ew =>
      obtain ⟨h1, h2⟩ := s_bif h
      cases h2
      simp only [Bool.and_eq_true, Nat.beq_eq, Nat.blt_eq, decide_eq_true_eq] at h1
      obtain ⟨rfl, h3, h4, h5⟩ := h1
      refine ⟨?_, ew, h3, h4, h5⟩
      show y_mk ((l, i) :: t) i = some l
      rw [y_mk, show Nat.beq i i = true from Nat.beq_eq.mpr rfl]
      rfl
    next => cases h
  next => cases h
/-- the bounds of the counter -/
theorem y_ctr_ok {l : Nat} {v : y_V} (h : y_ctr a = some (l, v)) (h0 : 0 < a.2.2.1) (hL : y_gL W β a.2.2.2.2 Ls) : v.2.1 ≤ β a.2.2.1 ∧ β a.2.2.1 ≤ v.2.2.1 := by
  obtain ⟨-, h2, h3, h4, h5⟩ := y_ctr_eq h
  obtain ⟨x, -, hg⟩ := hL _ (y_find_in h2)
  obtain ⟨b1, b2, b3⟩ := y_num_g h3 hg
  have := b3.1 (by rw [h4]; omega)
  rw [h4, h5] at this
  omega
/-- what holds where the loop goes on -/
def y_pgs (a : y_A) (x y : Int) : Prop := if a.2.1 = true then x < y else y < x
def y_act (φ : Nat → Nat → Value) (R : y_R) (P : g_S → Prop) (W : y_W) (β : Nat → Int) (a : y_A) : Prop := ∀ (W' : y_W) (β' : Nat → Int) (h' : g_H) (Ls' : g_L), W <+: W' → (∀ k, (k < a.2.2.1 ∨ (100000 ≤ k ∧ k < 300000)) → β' k = β k) → y_H φ R W' β' h' → y_gL W' β' a.2.2.2.2 Ls' → y_pgs a (β a.2.2.1) (β' a.2.2.1) → P (a.1, Ls', [], 0, 0, h')
theorem y_act_mono {W1 : y_W} {β1 : Nat → Int} (hW : W <+: W1) (hb : ∀ k, (k ≤ a.2.2.1 ∨ (100000 ≤ k ∧ k < 300000)) → β1 k = β k) (h : y_act φ R P W β a) : y_act φ R P W1 β1 a := by
  intro W' β' h' Ls' hW' hb' hH hL hp
  refine h W' β' h' Ls' (hW.trans hW') (fun k hk => ?_) hH hL ?_
  · rw [hb' k hk]
    exact hb k (by omega)
  · rw [← hb a.2.2.1 (Or.inl (Nat.le_refl _))]
    exact hp
theorem y_back_ok (ha : y_Aok a) (h : y_back a L = true) (hL : y_gL W β L Ls) : ∃ β', (∀ k, (k < a.2.2.1 ∨ 100000 ≤ k) → β' k = β k) ∧ y_gL W β' a.2.2.2.2 Ls ∧ y_pgs a (β a.2.2.1) (β' a.2.2.1) := by
  obtain ⟨h0, hm, l, v, hc⟩ := ha
  unfold y_back at h
  rw [Bool.and_eq_true] at h
  obtain ⟨h1, h2⟩ := h
  obtain ⟨f, hf⟩ := y_wit hL
  refine ⟨y_new β f a.2.2.2.1, fun k hk => y_new_out hm hk, y_fit_ok hf h1 (fun m hm' => by have := (hm m hm').2; omega), ?_⟩
  obtain ⟨c1, -⟩ := y_ctr_eq hc
  rw [hc] at h2
  dsimp only at h2
  split at h2
  next u eu =>
    simp only [Bool.and_eq_true, Nat.beq_eq, Nat.blt_eq] at h2
    obtain ⟨h3, h4, h5⟩ := h2
    have hn := y_num_g h3 (hf _ _ eu).2
    rw [y_new_some c1]
    have := hn.2.2.1 (by rw [h4]; omega)
    rw [h4] at this
    unfold y_pgs
    show if a.2.1 = true then β a.2.2.1 < y_vn (f l) else y_vn (f l) < β a.2.2.1
    cases e : a.2.1
    · rw [e, cond_false, decide_eq_true_eq] at h5
      rw [if_neg (by decide)]
      omega
    · rw [e, cond_true, decide_eq_true_eq] at h5
      rw [if_pos rfl]
      omega
  next => cases h2
theorem y_ent_ok {G : List y_A} (h : y_ent a G L = true) (hL : y_gL W β L Ls) : y_Aok a ∧ (∀ g ∈ G, g.2.2.1 < a.2.2.1) ∧ ∃ β', (∀ k, (k < a.2.2.1 ∨ 100000 ≤ k) → β' k = β k) ∧ y_gL W β' a.2.2.2.2 Ls := by
  unfold y_ent at h
  simp only [Bool.and_eq_true, List.all_eq_true, Nat.blt_eq, Nat.ble_eq] at h
  obtain ⟨h1, h2, h3, h4, h5⟩ := h
  obtain ⟨f, hf⟩ := y_wit hL
  refine ⟨⟨h3, h4, ?_⟩, h5, y_new β f a.2.2.2.1, fun k hk => y_new_out h4 hk, y_fit_ok hf h1 (fun m hm' => by have := (h4 m hm').2; omega)⟩
  cases e : y_ctr a with
  | none => rw [e] at h2; cases h2
  | some p => exact ⟨p.1, p.2, rfl⟩
theorem y_ent_A {G : List y_A} (h : y_ent a G L = true) : y_Aok a := by
  unfold y_ent at h
  simp only [Bool.and_eq_true, List.all_eq_true, Nat.blt_eq, Nat.ble_eq] at h
  obtain ⟨h1, h2, h3, h4, h5⟩ := h
  refine ⟨h3, h4, ?_⟩
  cases e : y_ctr a with
  | none => rw [e] at h2; cases h2
  | some p => exact ⟨p.1, p.2, rfl⟩
end Y7
