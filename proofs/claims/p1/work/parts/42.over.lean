-- calls that answer a number of which only bounds are known
def s_grow (M : s_M) (lo hi : Int) : Option (Nat × s_M) := bif Nat.ble 5 M.1.length && s_wM M.1.length M.2.2.2.length M then some (M.1.length, (M.1 ++ [(lo, hi)], M.2)) else none
theorem s_grow_ok {xs σ : Nat → Int} {M M' : s_M} {n : Nat} {lo hi z : Int} (h : s_grow M lo hi = some (n, M')) (hok : s_ok xs σ M) (hz : lo ≤ z ∧ z ≤ hi) :
    ∃ σ' : Nat → Int, (∀ i, i < M.1.length → σ' i = σ i) ∧ s_ok xs σ' M' ∧ σ' n = z ∧ ∀ ρ b, s_ch σ' ρ b 0 M.2.2.2 = s_ch σ ρ b 0 M.2.2.2 := by
  obtain ⟨E, R, B, H⟩ := M
  unfold s_grow at h
  obtain ⟨h1, h⟩ := s_bif h
  cases h
  simp only [s_wM, Bool.and_eq_true] at h1
  obtain ⟨h5, ⟨hwR, hwB⟩, hwH⟩ := h1
  have h5' : 5 ≤ E.length := Nat.le_of_ble_eq_true h5
  have hag : ∀ i, i < E.length → (fun i => if i = E.length then z else σ i) i = σ i := fun i hi => if_neg (by omega)
  refine ⟨fun i => if i = E.length then z else σ i, hag, ⟨fun i r hix => ?_, fun q hq => ?_, fun q hq => ?_, fun i hi => ?_⟩, if_pos rfl, fun ρ b => s_ch_ag H 0 hwH (by omega) hag (fun _ _ => rfl)⟩
  · have hi' : (E ++ [(lo, hi)])[i]? = some r := hix
    by_cases hl : i < E.length
    · rw [List.getElem?_append_left hl] at hi'
      have := hok.1 i r hi'
      simp only [if_neg (show ¬ i = E.length by omega)]
      exact this
    · rw [List.getElem?_append_right (by omega)] at hi'
      have hz0 : i - E.length < 1 := (List.getElem?_eq_some_iff.mp hi').1
      have hiE : i = E.length := by omega
      subst hiE
      rw [Nat.sub_self] at hi'
      cases hi'
      simp only [if_true]
      exact hz
  · have := hok.2.1 q hq
    have hw := List.all_eq_true.mp hwR q hq
    simp only [Bool.and_eq_true, Nat.blt_eq] at hw
    simp only [if_neg (show ¬ q.1 = E.length by omega), if_neg (show ¬ q.2.1 = E.length by omega)]
    exact this
  · have := hok.2.2.1 q hq
    have hw := List.all_eq_true.mp hwB q hq
    simp only [Bool.and_eq_true, Nat.blt_eq] at hw
    simp only [if_neg (show ¬ q.1 = E.length by omega), if_neg (show ¬ q.2.1 = E.length by omega), if_neg (show ¬ q.2.2 = E.length by omega)]
    exact this
  · simp only [if_neg (show ¬ i = E.length by omega)]
    exact hok.2.2.2 i hi
theorem s_grow_len {M M' : s_M} {n : Nat} {lo hi : Int} (h : s_grow M lo hi = some (n, M')) : n = M.1.length ∧ M'.1.length = M.1.length + 1 ∧ M'.2 = M.2 := by
  unfold s_grow at h
  obtain ⟨h1, h⟩ := s_bif h
  cases h
  exact ⟨rfl, by rw [List.length_append]; rfl, rfl⟩
/-- two longs of which the second isn't 0 -/
def s_gck (M : s_M) (x y : s_V) : Bool := match s_ivl M.1 x, s_ivl M.1 y with
  | some ix, some iy => decide (-4611686018427387904 ≤ ix.1) && (decide (ix.2 ≤ 4611686018427387904) && (decide (-4611686018427387904 ≤ iy.1) && (decide (iy.2 ≤ 4611686018427387904) && (decide (0 < iy.1) || decide (iy.2 < 0)))))
  | _, _ => false
theorem s_gck_ok {xs σ : Nat → Int} {ρ : Nat → Nat} {b : Nat} {M : s_M} {x y : s_V} (h : s_gck M x y = true) (hok : s_ok xs σ M) : ∃ u v : Int64, s_cv σ ρ b x = .long u ∧ s_cv σ ρ b y = .long v ∧ (u.toInt.natAbs : Int) ≤ 4611686018427387904 ∧ (v.toInt.natAbs : Int) ≤ 4611686018427387904 ∧ v.toInt ≠ 0 := by
  unfold s_gck at h
  split at h
  next ix iy ex ey =>
    obtain ⟨u, hu, u1, u2, -, -⟩ := s_ivl_eq (ρ := ρ) (b := b) hok ex
    obtain ⟨v, hv, v1, v2, -, -⟩ := s_ivl_eq (ρ := ρ) (b := b) hok ey
    simp only [Bool.and_eq_true, Bool.or_eq_true, decide_eq_true_eq] at h
    exact ⟨u, v, hu, hv, by omega, by omega, by omega⟩
  next => cases h
def s_long (M : s_M) (lo hi : Int) : Option (List (Option s_V × s_M)) := match s_grow M lo hi with
  | some (n, M') => some [(some (3, (n : Int)), M')]
  | none => none
def s_gc (d : Nat) (as : List s_V) (M : s_M) : Option (List (Option s_V × s_M)) := match as with
  | [x, y] => bif Nat.ble 1 d && s_gck M x y then s_long M 1 4611686018427387904 else none
  | _ => none
def s_qu (as : List s_V) (M : s_M) : Option (List (Option s_V × s_M)) := match as with
  | [x, y] => bif s_tk 1 x && s_tk 1 y then s_long M (-9223372036854775808) 9223372036854775807 else none
  | _ => none
theorem s_long_ok {xs σ : Nat → Int} {M : s_M} {lo hi : Int} {outs : List (Option s_V × s_M)} (h : s_long M lo hi = some outs) (hok : s_ok xs σ M) {ρ : Nat → Nat} {b : Nat} {post : Option Value → g_H → Prop}
    (hp : ∀ out ∈ outs, ∀ (σ' : Nat → Int) (ρ' : Nat → Nat), (∀ i, i < M.1.length → σ' i = σ i) → (∀ i, i < M.2.2.2.length → ρ' i = ρ i) → s_ok xs σ' out.2 → post (out.1.map (s_cv σ' ρ' b)) (s_ch σ' ρ' b 0 out.2.2.2.2)) (r : Int64) (hr : lo ≤ r.toInt ∧ r.toInt ≤ hi) : post (some (.long r)) (s_ch σ ρ b 0 M.2.2.2) := by
  unfold s_long at h
  split at h
  next n M' e =>
    cases h
    obtain ⟨σ', a1, a2, a3, a4⟩ := s_grow_ok e hok hr
    obtain ⟨l1, l2, l3⟩ := s_grow_len e
    have key := hp _ List.mem_cons_self σ' ρ a1 (fun _ _ => rfl) a2
    have e1 : s_cv σ' ρ b (3, (n : Int)) = .long r := by
      show Value.long (Int64.ofInt (σ' (n : Int).toNat)) = _
      rw [Int.toNat_natCast, a3, s_lz]
    have key2 : post (some (s_cv σ' ρ b (3, (n : Int)))) (s_ch σ' ρ b 0 M'.2.2.2) := key
    rw [e1, l3, a4] at key2
    exact key2
  next => cases h
theorem s_long_len {M : s_M} {lo hi : Int} {outs : List (Option s_V × s_M)} (h : s_long M lo hi = some outs) : ∀ out ∈ outs, M.1.length ≤ out.2.1.length ∧ M.2.2.2.length ≤ out.2.2.2.2.length := by
  unfold s_long at h
  split at h
  next n M' e =>
    cases h
    obtain ⟨l1, l2, l3⟩ := s_grow_len e
    intro out ho
    rw [List.mem_singleton] at ho
    subst ho
    exact ⟨by show M.1.length ≤ M'.1.length; omega, by show M.2.2.2.length ≤ M'.2.2.2.length; rw [l3]; exact Nat.le_refl _⟩
  next => cases h
