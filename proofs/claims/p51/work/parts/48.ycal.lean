-- calls of the machine over kinds and bounds
def y_gA (W : y_W) (β : Nat → Int) : List y_V → List Value → Prop
  | [], [] => True
  | v :: vs, x :: xs => y_g W β v x ∧ y_gA W β vs xs
  | _, _ => False
def y_gR (W : y_W) (β : Nat → Int) (o : Option y_V) (x : Option Value) : Prop := match o with
  | none => x = none
  | some v => ∃ y, x = some y ∧ y_g W β v y
/-- calls are sound: what they tell holds, in a greater world, of names to 300000 that are the same -/
def y_CS (R : y_R) (K : y_Call) (CALL : Nat → List Value → g_H → Nat → Nat → (Option Value → g_H → Prop) → Prop) : Prop :=
  ∀ j vs N outs, K j vs N = some outs → ∀ (φ : Nat → Nat → Value) (W : y_W) (β : Nat → Int) (h : g_H) (xs : List Value), y_H φ R W β h → y_gA W β vs xs → y_gL W β N [] → ∀ post : Option Value → g_H → Prop, (∀ out ∈ outs, ∀ (W' : y_W) (β' : Nat → Int) (h' : g_H) (x : Option Value), W <+: W' → (∀ k, 200000 ≤ k → k < 300000 → β' k = β k) → (∀ k, 150000 ≤ k → k < 200000 → β' k = β (k + 150000)) → y_H φ R W' β' h' → y_gR W' β' out.1 x → y_gA W' β' out.2.1 xs → y_gL W' β' out.2.2 [] → post x h') → CALL j xs h 0 0 post
section Y8
variable {CALL : Nat → List Value → g_H → Nat → Nat → (Option Value → g_H → Prop) → Prop} {cc : ByteArray} {o nL : Nat} {ini : Bool} {bc bs : Nat} {P : g_S → Prop} {R : y_R} {W W' : y_W} {β β' : Nat → Int} {φ : Nat → Nat → Value}
variable {full t : List s_I} {L : y_L} {st : List y_T} {Ls : g_L} {sts : List Value} {h : g_H} {mi : List s_MI}
theorem y_glq_ok (hb : ∀ k, 200000 ≤ k → β' k = β k) {r : y_Q} {n : Int} (h : y_rl β r n) : y_rl β' (y_glq r) n := by
  obtain ⟨k, c, k2, c2⟩ := r
  refine ⟨fun h0 => ?_, fun h0 => ?_⟩
  · cases e : Nat.ble 200000 k
    · exact absurd (show (bif Nat.ble 200000 k then k else 0) = 0 by rw [e]; rfl) h0
    · show n = β' (bif Nat.ble 200000 k then k else 0) + c
      rw [e, cond_true, hb k (Nat.le_of_ble_eq_true e)]
      exact h.1 (by have := Nat.le_of_ble_eq_true e; show k ≠ 0; omega)
  · cases e : Nat.ble 200000 k2
    · exact absurd (show (bif Nat.ble 200000 k2 then k2 else 0) = 0 by rw [e]; rfl) h0
    · show n ≤ β' (bif Nat.ble 200000 k2 then k2 else 0) + c2
      rw [e, cond_true, hb k2 (Nat.le_of_ble_eq_true e)]
      exact h.2 (by have := Nat.le_of_ble_eq_true e; show k2 ≠ 0; omega)
theorem y_loq_ok (hb : ∀ k, k < 300000 → β' k = β k) {r : y_Q} {n : Int} (h : y_rl β r n) : y_rl β' (y_loq r) n := by
  obtain ⟨k, c, k2, c2⟩ := r
  refine ⟨fun h0 => ?_, fun h0 => ?_⟩
  · cases e : Nat.ble 300000 k
    · have hk : k < 300000 := Nat.lt_of_not_le (fun h => by rw [Nat.ble_eq_true_of_le h] at e; cases e)
      have h0' : (bif Nat.ble 300000 k then 0 else k) ≠ 0 := h0
      rw [e, cond_false] at h0'
      show n = β' (bif Nat.ble 300000 k then 0 else k) + c
      rw [e, cond_false, hb k hk]
      exact h.1 h0'
    · exact absurd (show (bif Nat.ble 300000 k then 0 else k) = 0 by rw [e]; rfl) h0
  · cases e : Nat.ble 300000 k2
    · have hk : k2 < 300000 := Nat.lt_of_not_le (fun h => by rw [Nat.ble_eq_true_of_le h] at e; cases e)
      have h0' : (bif Nat.ble 300000 k2 then 0 else k2) ≠ 0 := h0
      rw [e, cond_false] at h0'
      show n ≤ β' (bif Nat.ble 300000 k2 then 0 else k2) + c2
      rw [e, cond_false, hb k2 hk]
      exact h.2 h0'
    · exact absurd (show (bif Nat.ble 300000 k2 then 0 else k2) = 0 by rw [e]; rfl) h0
theorem y_mq_ok {f : y_Q → y_Q} (hf : ∀ r n, y_rl β r n → y_rl β' (f r) n) {v : y_V} {x : Value} (h : y_g W β v x) : y_g W β' (y_mq f v) x := by
  obtain ⟨t, lo, hi, r⟩ := v
  match t, h with
  | 0, ⟨n, e, b1, b2, b3⟩ => exact ⟨n, e, b1, b2, hf _ _ b3⟩
  | 1, ⟨n, e, b1, b2, b3⟩ => exact ⟨n, e, b1, b2, hf _ _ b3⟩
  | 2, h => exact h
  | 3, h => exact h
  | 4, h => exact h
theorem y_mV_eq {α : Type} (f : y_Q → y_Q) : ∀ (l : List y_V) (k : List y_V → α), y_mV f l k = k (l.map (y_mq f))
  | [], _ => rfl
  | v :: t, k => by rw [y_mV, y_fv_eq, y_mV_eq f t]; rfl
def y_nmsL (L : y_L) : y_L := (L.filter (fun q => Nat.ble 200000 q.1)).map (fun q => (q.1, y_mq y_glq q.2))
theorem y_nms_eq {α : Type} : ∀ (l : y_L) (k : y_L → α), y_nms l k = k (y_nmsL l)
  | [], _ => rfl
  | (j, v) :: t, k => by
    rw [y_nms]
    unfold y_nmsL
    rw [List.filter_cons]
    cases e : Nat.ble 200000 j
    · simp only [cond_false, y_nms_eq t, Bool.false_eq_true, if_false]
      rfl
    · simp only [cond_true, y_fv_eq, y_nms_eq t, if_true, List.map_cons]
      rfl
theorem y_glm_ok {r : y_Q} {n : Int} (h : y_rl β r n) : y_rl β (y_glm r) n := by
  obtain ⟨k, c, k2, c2⟩ := r
  refine ⟨fun h0 => ?_, fun h0 => ?_⟩
  · cases e : Nat.ble 150000 k
    · exact absurd (show (bif Nat.ble 150000 k then k else 0) = 0 by rw [e]; rfl) h0
    · show n = β (bif Nat.ble 150000 k then k else 0) + c
      rw [e, cond_true]
      exact h.1 (by have := Nat.le_of_ble_eq_true e; show k ≠ 0; omega)
  · cases e : Nat.ble 150000 k2
    · exact absurd (show (bif Nat.ble 150000 k2 then k2 else 0) = 0 by rw [e]; rfl) h0
    · show n ≤ β (bif Nat.ble 150000 k2 then k2 else 0) + c2
      rw [e, cond_true]
      exact h.2 (by have := Nat.le_of_ble_eq_true e; show k2 ≠ 0; omega)
def y_nmoL (L : y_L) : y_L := (L.filter (fun q => Nat.ble 200000 q.1)).map (fun q => (q.1, y_mq y_glm q.2))
theorem y_nmo_eq {α : Type} : ∀ (l : y_L) (k : y_L → α), y_nmo l k = k (y_nmoL l)
  | [], _ => rfl
  | (j, v) :: t, k => by
    rw [y_nmo]
    unfold y_nmoL
    rw [List.filter_cons]
    cases e : Nat.ble 200000 j
    · simp only [cond_false, y_nmo_eq t, Bool.false_eq_true, if_false]
      rfl
    · simp only [cond_true, y_fv_eq, y_nmo_eq t, if_true, List.map_cons]
      rfl
theorem y_nmoL_ok {Ls' : g_L} (hL : y_gL W β L Ls) : y_gL W β (y_nmoL L) Ls' := by
  intro q hq
  obtain ⟨p, hp, rfl⟩ := List.mem_map.mp hq
  obtain ⟨hp1, hp2⟩ := List.mem_filter.mp hp
  have hp3 : 200000 ≤ p.1 := Nat.le_of_ble_eq_true hp2
  obtain ⟨x, hx, hg⟩ := hL p hp1
  exact ⟨x, ⟨fun h0 => absurd hp3 (Nat.not_le.mpr h0), fun h0 => hx.2 hp3⟩, y_mq_ok (fun r n => y_glm_ok) hg⟩
def y_enL (L : y_L) : y_L := L.map (fun q => (q.1, y_en1 q.1 q.2))
theorem y_en_eq {α : Type} : ∀ (l : y_L) (k : y_L → α), y_en l k = k (y_enL l)
  | [], _ => rfl
  | (j, v) :: t, k => by rw [y_en, y_fv_eq, y_en_eq t]; rfl
theorem y_enL_ok (hb : ∀ k, 300000 ≤ k → k < 350000 → β (k - 150000) = β k) (hL : y_gL W β L Ls) : y_gL W β (y_enL L) Ls := by
  intro q hq
  obtain ⟨p, hp, rfl⟩ := List.mem_map.mp hq
  obtain ⟨x, hx, hg⟩ := hL p hp
  refine ⟨x, hx, ?_⟩
  show y_g W β (y_en1 p.1 p.2) x
  unfold y_en1
  cases e : (Nat.beq p.2.1 0 && (Nat.ble 300000 p.1 && Nat.blt p.1 350000))
  · exact hg
  · obtain ⟨ea, eb⟩ := (Bool.and_eq_true _ _).mp e
    rw [Bool.and_eq_true, Nat.ble_eq, Nat.blt_eq] at eb
    obtain ⟨n, rfl, b1, b2, b3⟩ := y_isI_g ea hg
    obtain ⟨m, em, hm⟩ := hx.2 (by omega)
    cases em
    exact ⟨n, rfl, b1, b2, fun _ => by show n.toInt = β (p.1 - 150000) + 0; rw [hb _ eb.1 eb.2]; omega, b3.2⟩
def y_nmrL (L M : y_L) : y_L := (M.filter (fun q => Nat.ble 200000 q.1)).map (fun q => (q.1, y_mq y_glq (y_red L q.2)))
theorem y_nmr_eq {α : Type} (L : y_L) : ∀ (l : y_L) (k : y_L → α), y_nmr L l k = k (y_nmrL L l)
  | [], _ => rfl
  | (j, v) :: t, k => by
    rw [y_nmr]
    unfold y_nmrL
    rw [List.filter_cons]
    cases e : Nat.ble 200000 j
    · simp only [cond_false, y_nmr_eq L t, Bool.false_eq_true, if_false]
      rfl
    · simp only [cond_true, y_fv_eq, y_nmr_eq L t, if_true, List.map_cons]
      rfl
theorem y_nmrL_ok {Ls' : g_L} (hL : y_gL W β L Ls) : y_gL W β (y_nmrL L L) Ls' := by
  intro q hq
  obtain ⟨p, hp, rfl⟩ := List.mem_map.mp hq
  obtain ⟨hp1, hp2⟩ := List.mem_filter.mp hp
  have hp3 : 200000 ≤ p.1 := Nat.le_of_ble_eq_true hp2
  obtain ⟨x, hx, hg⟩ := hL p hp1
  exact ⟨x, ⟨fun h0 => absurd hp3 (Nat.not_le.mpr h0), fun h0 => hx.2 hp3⟩, y_mq_ok (fun r n => y_glq_ok (fun _ _ => rfl)) (y_red_ok hL hg)⟩
def y_trL (L N : y_L) : y_L := (N.filter (fun q => Nat.ble 200000 q.1 && Nat.beq q.2.1 0)).map (fun q => (q.1, y_tr1 L q.2))
theorem y_tr_eq {α : Type} (L : y_L) : ∀ (l : y_L) (k : y_L → α), y_tr L l k = k (y_trL L l)
  | [], _ => rfl
  | (j, v) :: t, k => by
    rw [y_tr]
    unfold y_trL
    rw [List.filter_cons]
    cases e : (Nat.ble 200000 j && Nat.beq v.1 0)
    · simp only [cond_false, y_tr_eq L t, Bool.false_eq_true, if_false]
      rfl
    · simp only [cond_true, y_fv_eq, y_tr_eq L t, if_true, List.map_cons]
      rfl
section Y8T
variable {β2 : Nat → Int}
theorem y_tre_ok (hg : ∀ k, 200000 ≤ k → β2 k = β' k) (hl : ∀ k, k < 300000 → β2 k = β k) (hM : ∀ k, 150000 ≤ k → k < 200000 → β' k = β (k + 150000)) (hL : y_gL W β L Ls) {k : Nat} {c n : Int} (h : k ≠ 0 → n = β' k + c) : (y_tre L k c).1 ≠ 0 → n = β2 (y_tre L k c).1 + (y_tre L k c).2 := by
  unfold y_tre
  cases e1 : Nat.ble 200000 k
  · rw [cond_false]
    have k2 : k < 200000 := Nat.lt_of_not_le (fun h => by rw [Nat.ble_eq_true_of_le h] at e1; cases e1)
    cases e2 : Nat.ble 150000 k
    · intro h0
      exact absurd rfl h0
    · rw [cond_true]
      have k1 := Nat.le_of_ble_eq_true e2
      split
      next u eu =>
        cases e3 : (Nat.beq u.1 0 && Nat.blt u.2.2.2.1 300000)
        · intro h0
          exact absurd rfl h0
        · rw [cond_true]
          intro h0
          obtain ⟨ea, eb⟩ := (Bool.and_eq_true _ _).mp e3
          rw [Nat.blt_eq] at eb
          obtain ⟨x, hx, hgx⟩ := hL _ (y_find_in eu)
          obtain ⟨m, rfl, b1, b2, b3⟩ := y_isI_g ea hgx
          obtain ⟨m', em, hm⟩ := hx.2 (by show 200000 ≤ k + 150000; omega)
          cases em
          have p1 := h (by omega)
          rw [hM k k1 k2] at p1
          have p2 := b3.1 h0
          have hm' : m.toInt = β (k + 150000) := hm
          show n = β2 u.2.2.2.1 + (u.2.2.2.2.1 + c)
          rw [hl _ eb]
          omega
      next =>
        intro h0
        exact absurd rfl h0
  · rw [cond_true]
    intro h0
    show n = β2 k + c
    rw [hg k (Nat.le_of_ble_eq_true e1)]
    exact h h0
theorem y_tru_ok (hg : ∀ k, 200000 ≤ k → β2 k = β' k) (hl : ∀ k, k < 300000 → β2 k = β k) (hM : ∀ k, 150000 ≤ k → k < 200000 → β' k = β (k + 150000)) (hL : y_gL W β L Ls) {k : Nat} {c n : Int} (h : k ≠ 0 → n ≤ β' k + c) : (y_tru L k c).1 ≠ 0 → n ≤ β2 (y_tru L k c).1 + (y_tru L k c).2 := by
  unfold y_tru
  cases e1 : Nat.ble 200000 k
  · rw [cond_false]
    have k2 : k < 200000 := Nat.lt_of_not_le (fun h => by rw [Nat.ble_eq_true_of_le h] at e1; cases e1)
    cases e2 : Nat.ble 150000 k
    · intro h0
      exact absurd rfl h0
    · rw [cond_true]
      have k1 := Nat.le_of_ble_eq_true e2
      split
      next u eu =>
        cases e3 : Nat.beq u.1 0
        · intro h0
          exact absurd rfl h0
        · rw [cond_true]
          obtain ⟨x, hx, hgx⟩ := hL _ (y_find_in eu)
          obtain ⟨m, rfl, b1, b2, b3⟩ := y_isI_g e3 hgx
          obtain ⟨m', em, hm⟩ := hx.2 (by show 200000 ≤ k + 150000; omega)
          cases em
          have p1 := h (by omega)
          rw [hM k k1 k2] at p1
          have hm' : m.toInt = β (k + 150000) := hm
          cases e4 : (!Nat.beq u.2.2.2.2.2.1 0 && Nat.blt u.2.2.2.2.2.1 300000)
          · rw [cond_false]
            cases e5 : Nat.blt u.2.2.2.1 300000
            · intro h0
              exact absurd rfl h0
            · rw [cond_true]
              intro h0
              rw [Nat.blt_eq] at e5
              have p2 := b3.1 h0
              show n ≤ β2 u.2.2.2.1 + (u.2.2.2.2.1 + c)
              rw [hl _ e5]
              omega
          · rw [cond_true]
            intro h0
            obtain ⟨ea, eb⟩ := (Bool.and_eq_true _ _).mp e4
            rw [Nat.blt_eq] at eb
            have p2 := b3.2 h0
            show n ≤ β2 u.2.2.2.2.2.1 + (u.2.2.2.2.2.2 + c)
            rw [hl _ eb]
            omega
      next =>
        intro h0
        exact absurd rfl h0
  · rw [cond_true]
    intro h0
    show n ≤ β2 k + c
    rw [hg k (Nat.le_of_ble_eq_true e1)]
    exact h h0
theorem y_trL_ok (hg : ∀ k, 200000 ≤ k → β2 k = β' k) (hl : ∀ k, k < 300000 → β2 k = β k) (hM : ∀ k, 150000 ≤ k → k < 200000 → β' k = β (k + 150000)) (hL : y_gL W β L Ls) {N : y_L} (hN : y_gL W' β' N []) : y_gL W' β2 (y_trL L N) Ls := by
  intro q hq
  obtain ⟨p, hp, rfl⟩ := List.mem_map.mp hq
  obtain ⟨hp1, hp2⟩ := List.mem_filter.mp hp
  obtain ⟨ea, eb⟩ := (Bool.and_eq_true _ _).mp hp2
  have hp3 : 200000 ≤ p.1 := Nat.le_of_ble_eq_true ea
  obtain ⟨x, hx, hgx⟩ := hN p hp1
  refine ⟨x, ⟨fun h0 => absurd hp3 (Nat.not_le.mpr h0), fun h0 => ?_⟩, ?_⟩
  · show ∃ n : Int32, x = .int n ∧ n.toInt = β2 p.1
    rw [hg p.1 hp3]
    exact hx.2 hp3
  · obtain ⟨n, rfl, b1, b2, b3⟩ := y_isI_g eb hgx
    have t1 := y_tre_ok (k := p.2.2.2.2.1) (c := p.2.2.2.2.2.1) hg hl hM hL b3.1
    have t2 : (bif Nat.beq p.2.2.2.2.2.2.1 0 then y_tru L p.2.2.2.2.1 p.2.2.2.2.2.1 else y_tru L p.2.2.2.2.2.2.1 p.2.2.2.2.2.2.2).1 ≠ 0 → n.toInt ≤ β2 (bif Nat.beq p.2.2.2.2.2.2.1 0 then y_tru L p.2.2.2.2.1 p.2.2.2.2.2.1 else y_tru L p.2.2.2.2.2.2.1 p.2.2.2.2.2.2.2).1 + (bif Nat.beq p.2.2.2.2.2.2.1 0 then y_tru L p.2.2.2.2.1 p.2.2.2.2.2.1 else y_tru L p.2.2.2.2.2.2.1 p.2.2.2.2.2.2.2).2 := by
      cases Nat.beq p.2.2.2.2.2.2.1 0
      · exact y_tru_ok hg hl hM hL b3.2
      · exact y_tru_ok hg hl hM hL (fun h0 => by have := b3.1 h0; omega)
    exact ⟨n, rfl, b1, b2, t1, t2⟩
end Y8T
def y_aftL (L : y_L) : y_L := (L.filter (fun q => !(Nat.ble 200000 q.1))).map (fun q => (q.1, y_mq y_loq q.2))
theorem y_aft_eq {α : Type} : ∀ (l : y_L) (k : y_L → α), y_aft l k = k (y_aftL l)
  | [], _ => rfl
  | (j, v) :: t, k => by
    rw [y_aft]
    unfold y_aftL
    rw [List.filter_cons]
    cases e : Nat.ble 200000 j
    · simp only [cond_false, y_fv_eq, y_aft_eq t, Bool.not_false, if_true, List.map_cons]
      rfl
    · simp only [cond_true, y_aft_eq t, Bool.not_true, Bool.false_eq_true, if_false]
      rfl
def y_afSL (st : List y_T) : List y_T := st.map (fun t => (y_mq y_loq t.1, bif Nat.ble 300001 t.2 then 0 else t.2))
theorem y_afS_eq {α : Type} : ∀ (l : List y_T) (k : List y_T → α), y_afS l k = k (y_afSL l)
  | [], _ => rfl
  | (v, j) :: t, k => by rw [y_afS, y_fv_eq, y_afS_eq t]; rfl
def y_refL : List y_T → List y_V → y_L → y_L
  | t :: ts, o :: os, L => y_refL ts os (bif Nat.blt 0 t.2 && (Nat.ble t.2 300000 && (Nat.blt o.1 2 && Nat.beq o.1 t.1.1)) then L.map (fun q => if q.1 = t.2 - 1 then (q.1, y_ref1 t o) else q) else L)
  | _, _, L => L
theorem y_ref_eq {α : Type} : ∀ (ts : List y_T) (os : List y_V) (L : y_L) (k : y_L → α), y_ref ts os L k = k (y_refL ts os L)
  | [], _, _, _ => rfl
  | _ :: _, [], _, _ => rfl
  | t :: ts, o :: os, L, k => by
    rw [y_ref, y_refL]
    cases e : (Nat.blt 0 t.2 && (Nat.ble t.2 300000 && (Nat.blt o.1 2 && Nat.beq o.1 t.1.1)))
    · rw [cond_false, cond_false, y_ref_eq ts]
    · rw [cond_true, cond_true, y_fv_eq, y_upd_eq, y_ref_eq ts]
-- what they say
theorem y_at_lo (hb : ∀ k, k < 300000 → β' k = β k) {i : Nat} {x : Value} (hi : i < 300000) (h : y_at β Ls i x) : y_at β' Ls i x := ⟨h.1, fun h0 => by rw [hb i hi]; exact h.2 h0⟩
theorem y_nmsL_ok {Ls' : g_L} (hb : ∀ k, 200000 ≤ k → β' k = β k) (hL : y_gL W β L Ls) : y_gL W β' (y_nmsL L) Ls' := by
  intro q hq
  obtain ⟨p, hp, rfl⟩ := List.mem_map.mp hq
  obtain ⟨hp1, hp2⟩ := List.mem_filter.mp hp
  have hp3 : 200000 ≤ p.1 := Nat.le_of_ble_eq_true hp2
  obtain ⟨x, hx, hg⟩ := hL p hp1
  refine ⟨x, ⟨fun h0 => absurd hp3 (Nat.not_le.mpr h0), fun h0 => ?_⟩, y_mq_ok (fun r n => y_glq_ok hb) hg⟩
  show ∃ n : Int32, x = .int n ∧ n.toInt = β' p.1
  rw [hb p.1 hp3]
  exact hx.2 hp3
theorem y_aftL_ok (hb : ∀ k, k < 300000 → β' k = β k) (hL : y_gL W β L Ls) : y_gL W β' (y_aftL L) Ls := by
  intro q hq
  obtain ⟨p, hp, rfl⟩ := List.mem_map.mp hq
  obtain ⟨hp1, hp2⟩ := List.mem_filter.mp hp
  have hp3 : p.1 < 200000 := Nat.lt_of_not_le (fun h => by rw [Nat.ble_eq_true_of_le h] at hp2; cases hp2)
  obtain ⟨x, hx, hg⟩ := hL p hp1
  exact ⟨x, y_at_lo hb (by omega) hx, y_mq_ok (fun r n => y_loq_ok hb) hg⟩
theorem y_afSL_ok (hb : ∀ k, k < 300000 → β' k = β k) : ∀ {st : List y_T} {sts : List Value}, y_gS W β Ls st sts → y_gS W β' Ls (y_afSL st) sts
  | [], [], _ => trivial
  | [], _ :: _, h => h.elim
  | _ :: _, [], h => h.elim
  | t :: ts, x :: xs, h => by
    refine ⟨⟨y_mq_ok (fun r n => y_loq_ok hb) h.1.1, ?_⟩, y_afSL_ok hb h.2⟩
    show (bif Nat.ble 300001 t.2 then 0 else t.2) ≠ 0 → y_at β' Ls ((bif Nat.ble 300001 t.2 then 0 else t.2) - 1) x
    cases e : Nat.ble 300001 t.2
    · intro h0
      have h0' : t.2 ≠ 0 := h0
      have hk : t.2 < 300001 := Nat.lt_of_not_le (fun h => by rw [Nat.ble_eq_true_of_le h] at e; cases e)
      exact y_at_lo hb (by show t.2 - 1 < 300000; omega) (h.1.2 h0')
    · intro h0
      exact absurd rfl h0
theorem y_ref1_ok (hb : ∀ k, k < 300000 → β' k = β k) {t : y_T} {o : y_V} {x : Value} (ho : o.1 < 2) (hk : o.1 = t.1.1) (h1 : y_g W β t.1 x) (h2 : y_g W β' o x) : y_g W β' (y_ref1 t o) x := by
  obtain ⟨⟨k, lo, hi, r⟩, i⟩ := t
  obtain ⟨k', lo', hi', r'⟩ := o
  have hk' : k' = k := hk
  subst hk'
  have key : ∀ n : Int, y_rl β r n → y_rl β' r' n → y_rl β' (y_ref1 ((k', lo, hi, r), i) (k', lo', hi', r')).2.2.2 n := by
    intro n a b
    have a' := y_loq_ok hb a
    refine ⟨a'.1, ?_⟩
    have b' : (y_loq r').2.2.1 ≠ 0 → n ≤ β' (y_loq r').2.2.1 + (y_loq r').2.2.2 := by
      obtain ⟨k3, c3, k4, c4⟩ := r'
      intro h0
      cases e : Nat.ble 300000 k4
      · have h0' : (bif Nat.ble 300000 k4 then 0 else k4) ≠ 0 := h0
        rw [e, cond_false] at h0'
        show n ≤ β' (bif Nat.ble 300000 k4 then 0 else k4) + c4
        rw [e, cond_false]
        exact b.2 h0'
      · exact absurd (show (bif Nat.ble 300000 k4 then 0 else k4) = 0 by rw [e]; rfl) h0
    exact y_pick_ok (o := (y_loq r).2.2) (c := (y_loq r').2.2) a'.2 b'
  match k', ho, h1, h2, key with
  | 0, _, ⟨n, e, _, _, b3⟩, ⟨n', e', c1, c2, c3⟩, key =>
    rw [e] at e'
    cases e'
    exact ⟨n, e, c1, c2, key _ b3 c3⟩
  | 1, _, ⟨n, e, _, _, b3⟩, ⟨n', e', c1, c2, c3⟩, key =>
    rw [e] at e'
    cases e'
    exact ⟨n, e, c1, c2, key _ b3 c3⟩
theorem y_refL_ok (hW : W <+: W') (hb : ∀ k, k < 300000 → β' k = β k) : ∀ {ts : List y_T} {xs : List Value} {os : List y_V} {L : y_L}, y_gS W β Ls ts xs → y_gA W' β' os xs → y_gL W' β' L Ls → y_gL W' β' (y_refL ts os L) Ls
  | [], _, _, _, _, _, hL => hL
  | _ :: _, _, [], _, _, _, hL => hL
  | _ :: _, [], _ :: _, _, h, _, _ => h.elim
  | t :: ts, x :: xs, o :: os, L, hS, hA, hL => by
    rw [y_refL]
    refine y_refL_ok hW hb hS.2 hA.2 ?_
    cases e : (Nat.blt 0 t.2 && (Nat.ble t.2 300000 && (Nat.blt o.1 2 && Nat.beq o.1 t.1.1)))
    · exact hL
    · simp only [Bool.and_eq_true, Nat.blt_eq, Nat.ble_eq, Nat.beq_eq] at e
      obtain ⟨e1, e2, e3, e4⟩ := e
      exact y_gL_upd hL (y_at_lo hb (by omega) (hS.1.2 (by omega))) (y_ref1_ok hb e3 e4 (y_ext_g hW hS.1.1) hA.1)
theorem y_gS_app : ∀ {a b : List y_T} {sts : List Value}, y_gS W β Ls (a ++ b) sts → ∃ u v, sts = u ++ v ∧ u.length = a.length ∧ y_gS W β Ls a u ∧ y_gS W β Ls b v
  | [], b, sts, h => ⟨[], sts, rfl, rfl, trivial, h⟩
  | _ :: _, _, [], h => h.elim
  | t :: ts, b, x :: xs, h => by
    obtain ⟨u, v, e, hl, h1, h2⟩ := y_gS_app (a := ts) h.2
    exact ⟨x :: u, v, by rw [e]; rfl, by simp [hl], ⟨h.1, h1⟩, h2⟩
theorem y_gS_app2 : ∀ {a b : List y_T} {u v : List Value}, y_gS W β Ls a u → y_gS W β Ls b v → y_gS W β Ls (a ++ b) (u ++ v)
  | [], _, [], _, _, h => h
  | [], _, _ :: _, _, h, _ => h.elim
  | _ :: _, _, [], _, h, _ => h.elim
  | _ :: _, _, _ :: _, _, h, h2 => ⟨h.1, y_gS_app2 h.2 h2⟩
theorem y_gS_rev : ∀ {a : List y_T} {u : List Value}, y_gS W β Ls a u → y_gS W β Ls a.reverse u.reverse
  | [], [], _ => trivial
  | [], _ :: _, h => h.elim
  | _ :: _, [], h => h.elim
  | t :: ts, x :: xs, h => by
    rw [List.reverse_cons, List.reverse_cons]
    exact y_gS_app2 (y_gS_rev h.2) ⟨h.1, trivial⟩
theorem y_gS_gA (hb : ∀ k, 200000 ≤ k → β' k = β k) : ∀ {a : List y_T} {u : List Value}, y_gS W β Ls a u → y_gA W β' ((y_vs a).map (y_mq y_glq)) u
  | [], [], _ => trivial
  | [], _ :: _, h => h.elim
  | _ :: _, [], h => h.elim
  | t :: ts, x :: xs, h => ⟨y_mq_ok (fun r n => y_glq_ok hb) h.1.1, y_gS_gA hb h.2⟩
theorem y_gA_m {f : y_Q → y_Q} (hf : ∀ r n, y_rl β r n → y_rl β' (f r) n) : ∀ {a : List y_V} {u : List Value}, y_gA W β a u → y_gA W β' (a.map (y_mq f)) u
  | [], [], _ => trivial
  | [], _ :: _, h => h.elim
  | _ :: _, [], h => h.elim
  | v :: vs, x :: xs, h => ⟨y_mq_ok hf h.1, y_gA_m hf h.2⟩
theorem y_sum_g : ∀ {st : List y_T} {sts : List Value}, y_gS W β Ls st sts → g_sum sts = y_sum st
  | [], [], _ => rfl
  | [], _ :: _, h => h.elim
  | _ :: _, [], h => h.elim
  | t :: ts, x :: xs, h => by
    have e := y_sum_g h.2
    have hc := y_cat h.1.1
    show ((x :: xs).map fun v => v.category).sum = (bif y_c2 t.1 then 2 else 1) + y_sum ts
    rw [List.map_cons, List.sum_cons, hc, ← e]
    cases y_c2 t.1 <;> rfl
theorem y_tkn_eq : ∀ (n : Nat) (st acc as rest : List y_T), y_tkn n st acc = some (as, rest) → ∃ l, as = l.reverse ++ acc ∧ st = l ++ rest ∧ l.length = n
  | 0, st, acc, as, rest, h => by cases h; exact ⟨[], rfl, rfl, rfl⟩
  | n + 1, v :: st, acc, as, rest, h => by
    obtain ⟨l, h1, h2, h3⟩ := y_tkn_eq n st (v :: acc) as rest h
    exact ⟨v :: l, by rw [h1]; simp, by rw [h2]; rfl, by simp [h3]⟩
  | _ + 1, [], _, _, _, h => by cases h
end Y8
