-- depths: the pair
set_option maxRecDepth 20000
theorem dp_iw {M : xa_M} {v u : Int} : xm_inw M v u ↔ dp_W (M 68) (M 69) (M 64) (M 63) (M 66) (M 67) (M 60 6) v u := ⟨fun h => h.elim Or.inl (fun ⟨⟨a, s⟩, c⟩ => Or.inr ⟨a, c, s⟩), fun h => h.elim Or.inl (fun ⟨a, c, s⟩ => Or.inr ⟨⟨a, s⟩, c⟩)⟩
theorem dp_We {xs ys ax tk o p xs' ys' ax' tk' o' p' : Int → Int} {m : Int} (hm : m ≤ 16) (ex : ∀ i, 0 ≤ i → i < 10 → xs i = xs' i) (ey : ∀ i, 0 ≤ i → i < 10 → ys i = ys' i) (ea : ∀ i, 0 ≤ i → i < 14 → ax i = ax' i) (et : ∀ i, 0 ≤ i → i < 14 → tk i = tk' i) (eo : ∀ i, 0 ≤ i → i < 16 → o i = o' i) (ep : ∀ i, 0 ≤ i → i < 16 → p i = p' i) (hr : ∀ i, 0 ≤ i → i < 14 → 0 ≤ ax' i ∧ ax' i ≤ 9) {v u : Int} (v0 : 0 ≤ v) (v1 : v < 14) (u0 : 0 ≤ u) (u1 : u < 14) : dp_W xs ys ax tk o p m v u ↔ dp_W xs' ys' ax' tk' o' p' m v u := by
  have sq : ∀ a c, 0 ≤ a → a ≤ 9 → 0 ≤ c → c ≤ 9 → pl_sq xs ys a c = pl_sq xs' ys' a c := fun a c a0 a1 c0 c1 => by
    unfold pl_sq
    rw [ex a a0 (by omega), ex c c0 (by omega), ey a a0 (by omega), ey c c0 (by omega)]
  have me : pl_me o p m v u ↔ pl_me o' p' m v u := by
    refine ⟨fun ⟨k, k0, k1, h⟩ => ⟨k, k0, k1, ?_⟩, fun ⟨k, k0, k1, h⟩ => ⟨k, k0, k1, ?_⟩⟩
    · rw [← eo k k0 (by omega), ← ep k k0 (by omega)]
      exact h
    · rw [eo k k0 (by omega), ep k k0 (by omega)]
      exact h
  have rv := hr v v0 v1
  have ru := hr u u0 u1
  unfold dp_W pl_cr
  rw [ea v v0 v1, ea u u0 u1, et v v0 v1, et u u0 u1, sq _ _ rv.1 rv.2 ru.1 ru.2, me]
