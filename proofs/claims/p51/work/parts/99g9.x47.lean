-- depths: the pair
set_option maxRecDepth 20000
theorem dp_iw {M : xa_M} {v u : Int} : xm_inw M v u ↔ dp_W (M 68) (M 69) (M 64) (M 63) (M 66) (M 67) (M 60 6) v u := ⟨fun h => h.elim Or.inl (fun ⟨⟨a, s⟩, c⟩ => Or.inr ⟨a, c, s⟩), fun h => h.elim Or.inl (fun ⟨a, c, s⟩ => Or.inr ⟨⟨a, s⟩, c⟩)⟩
theorem dp_We {xs ys ax tk o p xs' ys' ax' tk' o' p' : Int → Int} {m : Int} (hm : m ≤ 16) (ex : ∀ i, 0 ≤ i → i < 10 → xs i = xs' i) (ey : ∀ i, 0 ≤ i → i < 10 → ys i = ys' i) (ea : ∀ i, 0 ≤ i → i < 14 → ax i = ax' i) (et : ∀ i, 0 ≤ i → i < 14 → tk i = tk' i) (eo : ∀ i, 0 ≤ i → i < 16 → o i = o' i) (ep : ∀ i, 0 ≤ i → i < 16 → p i = p' i) (hr : ∀ i, 0 ≤ i → i < 14 → 0 ≤ ax' i ∧ ax' i ≤ 9) {v u : Int} (v0 : 0 ≤ v) (v1 : v < 14) (u0 : 0 ≤ u) (u1 : u < 14) : dp_W xs ys ax tk o p m v u ↔ dp_W xs' ys' ax' tk' o' p' m v u := by
  have sq : ∀ a c, 0 ≤ a → a ≤ 9 → 0 ≤ c → c ≤ 9 → pl_sq xs ys a c = pl_sq xs' ys' a c := fun a c a0 a1 c0 c1 => by
    unfold pl_sq
    rw [ex a a0 (by omega), ex c c0 (by omega), ey a a0 (by omega), ey c c0 (by omega)]
  have me : pl_me o p m v u ↔ pl_me o' p' m v u := by
    refine ⟨fun ⟨k, k0, k1, h⟩ => ⟨k, k0, k1, ?_⟩, fun ⟨k, k0, k1, h⟩ => ⟨k, k0, k1, ?_⟩⟩
    · rw [← eo k k0 (by omega), ← ep k k0 (by omega)]
      exact h
    · rw [eo k k0 (by omega), ep k k0 (by omega)]
      exact h
  have rv := hr v v0 v1
  have ru := hr u u0 u1
  unfold dp_W pl_cr
  rw [ea v v0 v1, ea u u0 u1, et v v0 v1, et u u0 u1, sq _ _ rv.1 rv.2 ru.1 ru.2, me]
theorem iv_p151 (A : Nat → Nat) (cmp : Bool) : iv_pair (iv_J A) A 151 267 [] cmp false := iv_armV (fun W b h as M hJ hM hInv hs hR => by
  obtain rfl := iv_sp0 hs
  have b0 := xm_f0 (xa_H_Mok hM)
  have b6 := xm_f6 (xa_H_Mok hM)
  have r1 : iv_num h 1 9 = M 60 0 := hR.1.1
  have r2 : iv_num h 1 10 = M 60 6 := hR.1.2.1
  have r3 : ∀ i, 0 ≤ i → i < 14 → iv_num h 2 i = M 61 i ∧ iv_num h 3 i = M 62 i ∧ iv_num h 5 i = M 64 i ∧ iv_num h 6 i = M 65 i ∧ iv_num h 4 i = M 63 i := hR.1.2.2.1
  have r4 : ∀ i, 0 ≤ i → i < 16 → iv_num h 7 i = M 66 i ∧ iv_num h 8 i = M 67 i := hR.1.2.2.2
  have hS := hR.2
  have hX : lm_X (xj (iv_num h) M) := hR.2.2
  have hMk := xa_H_Mok hM
  have p9 : ∀ i, 0 ≤ i → i < 10 → iv_num h 9 i = M 68 i := hX.2.2.2.2.2.2.2.2.2.2.2.2.2.2.1
  have p10 : ∀ i, 0 ≤ i → i < 10 → iv_num h 10 i = M 69 i := hX.2.2.2.2.2.2.2.2.2.2.2.2.2.2.2
  have q9 : ∀ i, 0 ≤ i → i < 10 → -500 ≤ iv_num h 9 i ∧ iv_num h 9 i ≤ 500 := fun i i0 i1 => by rw [p9 i i0 i1]; exact xm_t68 hMk i i0 i1
  have q10 : ∀ i, 0 ≤ i → i < 10 → -500 ≤ iv_num h 10 i ∧ iv_num h 10 i ≤ 500 := fun i i0 i1 => by rw [p10 i i0 i1]; exact xm_t69 hMk i i0 i1
  have q5 : ∀ i, 0 ≤ i → i < 14 → 0 ≤ iv_num h 5 i ∧ iv_num h 5 i ≤ 9 := fun i i0 i1 => by rw [(r3 i i0 i1).2.2.1]; exact xm_t64 hMk i i0 i1
  have q6 : ∀ i, 0 ≤ i → i < 14 → 0 ≤ iv_num h 6 i ∧ iv_num h 6 i ≤ 9 := fun i i0 i1 => by rw [(r3 i i0 i1).2.2.2.1]; exact xm_t65 hMk i i0 i1
  have hF : pl_F (iv_num h) := ⟨by omega, by omega, fun k k0 k1 => by
    have a1 := (r4 k k0 (by omega)).1
    have a2 := (r4 k k0 (by omega)).2
    have u1 := xm_t66 hMk k k0 (by omega)
    have u2 := xm_t67 hMk k k0 (by omega)
    omega, q9, q10, q5, q6, fun i i0 i1 => by
    have a1 := (r3 i i0 i1).2.2.2.2
    have a2 := xm_t63 hMk i i0 i1
    omega⟩
  have hab : xk_ab (iv_num h 1 9) (iv_num h 1 10) (iv_num h 7) (iv_num h 8) := fun i i0 i1 => by
    have a1 := (r4 i i0 (by omega)).1
    have a2 := (r4 i i0 (by omega)).2
    have u1 := xm_t66 hMk i i0 (by omega)
    have u2 := xm_t67 hMk i i0 (by omega)
    have u3 := hInv.2.1 i i0 (by omega)
    omega
  have conv : ∀ r, dq_A (M 60 0) (xm_inw M) (M 66) (M 67) (M 60 6) r → dq_A (iv_num h 1 9) (dp_W (iv_num h 9) (iv_num h 10) (iv_num h 5) (iv_num h 4) (iv_num h 7) (iv_num h 8) (iv_num h 1 10)) (iv_num h 7) (iv_num h 8) (iv_num h 1 10) r := fun r hA => dq_Ae r1 r2 (fun v u v0 v1 u0 u1 => by
    rw [dp_iw, r2]
    exact dp_We b6.2 p9 p10 (fun i i0 i1 => (r3 i i0 i1).2.2.1) (fun i i0 i1 => (r3 i i0 i1).2.2.2.2) (fun i i0 i1 => (r4 i i0 i1).1) (fun i i0 i1 => (r4 i i0 i1).2) (fun i i0 i1 => xm_t64 hMk i i0 i1) v0 (by omega) u0 (by omega)) (fun m m0 m1 => (r4 m m0 (by omega)).1) (fun m m0 m1 => (r4 m m0 (by omega)).2) hA
  have hc := cw_151 (b := b) (A := A) (h0 := h) (d := 26) (M := iv_num h) (post := fun o M1 => ∃ lo hi n, o = some (0, 0, lo, hi, n) ∧ (dq_A (iv_num h 1 9) (dp_W (iv_num h 9) (iv_num h 10) (iv_num h 5) (iv_num h 4) (iv_num h 7) (iv_num h 8) (iv_num h 1 10)) (iv_num h 7) (iv_num h 8) (iv_num h 1 10) n ∧ dp_K (iv_num h) M1)) hF hab (fun M1 r hK hA => ⟨_, _, _, rfl, hA, hK⟩)
  have hm := fun (h1 : g_H) => ms_depthsF (A := A) (h0 := h1) (d := 41) (M := M) (post := fun o M2 => (∃ lo hi n, o = some (0, 0, lo, hi, n) ∧ (dq_A (M 60 0) (xm_inw M) (M 66) (M 67) (M 60 6) n ∧ xm_cor M M2)) ∧ xm_Inv M2) hInv (fun r M2 hc hA => ⟨⟨_, _, _, rfl, hA, hc⟩, xm_Inv_cor hc hInv⟩)
  refine ⟨[(2, 0, 0, 0, 0)], [(2, 60, 0, 0, 0)], _, _, ⟨rfl, trivial⟩, ⟨rfl, trivial⟩, fun n n' M1 M2 h1 h2 => ⟨fun _ => dq_A1 h1.1 (conv _ h2.1), fun x => h2.2 104 x (by unfold xm_scr; omega), fun x => h2.2 105 x (by unfold xm_scr; omega), xq_lmR hR (fun q j hC hq => h1.2 q j (by first | (have t9 := lm_Cq hC; omega) | (unfold lm_C at hC; omega)) (by first | (have t9 := lm_Cq hC; omega) | (unfold lm_C at hC; omega)) (by first | (have t9 := lm_Cq hC; omega) | (unfold lm_C at hC; omega))) h2.2⟩, hc, hm⟩)
