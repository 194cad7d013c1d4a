-- room: the pair
set_option maxRecDepth 20000
theorem pl_all_e {xs ys ax dp tk o p xs' ys' ax' dp' tk' o' p' : Int → Int} {n m sl : Int} (hn : n ≤ 14) (hm : m ≤ 16) (ex : ∀ i, 0 ≤ i → i < 10 → xs i = xs' i) (ey : ∀ i, 0 ≤ i → i < 10 → ys i = ys' i) (ea : ∀ i, 0 ≤ i → i < 14 → ax i = ax' i) (ed : ∀ i, 0 ≤ i → i < 14 → dp i = dp' i) (et : ∀ i, 0 ≤ i → i < 14 → tk i = tk' i) (eo : ∀ i, 0 ≤ i → i < 16 → o i = o' i) (ep : ∀ i, 0 ≤ i → i < 16 → p i = p' i) (hr : ∀ i, 0 ≤ i → i < 14 → 0 ≤ ax' i ∧ ax' i ≤ 9) (ho : ∀ i, 0 ≤ i → i < m → 0 ≤ o' i ∧ o' i ≤ 13) (hp : ∀ i, 0 ≤ i → i < m → 0 ≤ p' i ∧ p' i ≤ 13) : pl_all xs ys ax dp tk o p n m sl = pl_all xs' ys' ax' dp' tk' o' p' n m sl := by
  have sq : ∀ a c, 0 ≤ a → a ≤ 9 → 0 ≤ c → c ≤ 9 → pl_sq xs ys a c = pl_sq xs' ys' a c := fun a c a0 a1 c0 c1 => by
    unfold pl_sq
    rw [ex a a0 (by omega), ex c c0 (by omega), ey a a0 (by omega), ey c c0 (by omega)]
  have me : ∀ a c, pl_me o p m a c ↔ pl_me o' p' m a c := fun a c => by
    refine ⟨fun ⟨k, k0, k1, h⟩ => ⟨k, k0, k1, ?_⟩, fun ⟨k, k0, k1, h⟩ => ⟨k, k0, k1, ?_⟩⟩
    · rw [← eo k k0 (by omega), ← ep k k0 (by omega)]
      exact h
    · rw [eo k k0 (by omega), ep k k0 (by omega)]
      exact h
  have c1 : pl_pa (pl_P1 xs ys ax dp tk o p m) n.toNat = pl_pa (pl_P1 xs' ys' ax' dp' tk' o' p' m) n.toNat := pl_pa_e (fun v w hv hw => by
    have rv := hr v (by omega) (by omega)
    have rw' := hr w (by omega) (by omega)
    unfold pl_P1 pl_cr
    rw [ed v (by omega) (by omega), ed w (by omega) (by omega), ea v (by omega) (by omega), ea w (by omega) (by omega), et v (by omega) (by omega), et w (by omega) (by omega), sq _ _ rv.1 rv.2 rw'.1 rw'.2, me])
  have c2 : pl_ct (pl_sk dp o p) m.toNat = pl_ct (pl_sk dp' o' p') m.toNat := pl_ct_e _ (fun k hk => by
    have r1 := ho k (by omega) (by omega)
    have r2 := hp k (by omega) (by omega)
    unfold pl_sk
    rw [eo k (by omega) (by omega), ep k (by omega) (by omega), ed _ r1.1 (by omega), ed _ r2.1 (by omega)])
  have c3 : pl_ct (pl_of xs ys ax tk o p sl) m.toNat = pl_ct (pl_of xs' ys' ax' tk' o' p' sl) m.toNat := pl_ct_e _ (fun k hk => by
    have r1 := ho k (by omega) (by omega)
    have r2 := hp k (by omega) (by omega)
    have q1 := hr _ r1.1 (by omega)
    have q2 := hr _ r2.1 (by omega)
    unfold pl_of
    rw [eo k (by omega) (by omega), ep k (by omega) (by omega), et _ r1.1 (by omega), et _ r2.1 (by omega), ea _ r1.1 (by omega), ea _ r2.1 (by omega), sq _ _ q1.1 q1.2 q2.1 q2.2])
  have c4 : pl_pa (pl_P2 ax dp) n.toNat = pl_pa (pl_P2 ax' dp') n.toNat := pl_pa_e (fun v w hv hw => by
    unfold pl_P2
    rw [ed v (by omega) (by omega), ed w (by omega) (by omega), ea v (by omega) (by omega), ea w (by omega) (by omega)])
  unfold pl_all
  rw [c1, c2, c3, c4]
def pl_An (sl X n : Int) : Prop := ((0 ≤ sl ∧ sl ≤ 50) ∧ n = X) ∨ (¬ (0 ≤ sl ∧ sl ≤ 50) ∧ n = -1)
