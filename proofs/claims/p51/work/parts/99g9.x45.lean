-- room: the pair
set_option maxRecDepth 20000
theorem pl_all_e {xs ys ax dp tk o p xs' ys' ax' dp' tk' o' p' : Int → Int} {n m sl : Int} (hn : n ≤ 14) (hm : m ≤ 16) (ex : ∀ i, 0 ≤ i → i < 10 → xs i = xs' i) (ey : ∀ i, 0 ≤ i → i < 10 → ys i = ys' i) (ea : ∀ i, 0 ≤ i → i < 14 → ax i = ax' i) (ed : ∀ i, 0 ≤ i → i < 14 → dp i = dp' i) (et : ∀ i, 0 ≤ i → i < 14 → tk i = tk' i) (eo : ∀ i, 0 ≤ i → i < 16 → o i = o' i) (ep : ∀ i, 0 ≤ i → i < 16 → p i = p' i) (hr : ∀ i, 0 ≤ i → i < 14 → 0 ≤ ax' i ∧ ax' i ≤ 9) (ho : ∀ i, 0 ≤ i → i < m → 0 ≤ o' i ∧ o' i ≤ 13) (hp : ∀ i, 0 ≤ i → i < m → 0 ≤ p' i ∧ p' i ≤ 13) : pl_all xs ys ax dp tk o p n m sl = pl_all xs' ys' ax' dp' tk' o' p' n m sl := by
  have sq : ∀ a c, 0 ≤ a → a ≤ 9 → 0 ≤ c → c ≤ 9 → pl_sq xs ys a c = pl_sq xs' ys' a c := fun a c a0 a1 c0 c1 => by
    unfold pl_sq
    rw [ex a a0 (by omega), ex c c0 (by omega), ey a a0 (by omega), ey c c0 (by omega)]
  have me : ∀ a c, pl_me o p m a c ↔ pl_me o' p' m a c := fun a c => by
    refine ⟨fun ⟨k, k0, k1, h⟩ => ⟨k, k0, k1, ?_⟩, fun ⟨k, k0, k1, h⟩ => ⟨k, k0, k1, ?_⟩⟩
    · rw [← eo k k0 (by omega), ← ep k k0 (by omega)]
      exact h
    · rw [eo k k0 (by omega), ep k k0 (by omega)]
      exact h
  have c1 : pl_pa (pl_P1 xs ys ax dp tk o p m) n.toNat = pl_pa (pl_P1 xs' ys' ax' dp' tk' o' p' m) n.toNat := pl_pa_e (fun v w hv hw => by
    have rv := hr v (by omega) (by omega)
    have rw' := hr w (by omega) (by omega)
    unfold pl_P1 pl_cr
    rw [ed v (by omega) (by omega), ed w (by omega) (by omega), ea v (by omega) (by omega), ea w (by omega) (by omega), et v (by omega) (by omega), et w (by omega) (by omega), sq _ _ rv.1 rv.2 rw'.1 rw'.2, me])
  have c2 : pl_ct (pl_sk dp o p) m.toNat = pl_ct (pl_sk dp' o' p') m.toNat := pl_ct_e _ (fun k hk => by
    have r1 := ho k (by omega) (by omega)
    have r2 := hp k (by omega) (by omega)
    unfold pl_sk
    rw [eo k (by omega) (by omega), ep k (by omega) (by omega), ed _ r1.1 (by omega), ed _ r2.1 (by omega)])
  have c3 : pl_ct (pl_of xs ys ax tk o p sl) m.toNat = pl_ct (pl_of xs' ys' ax' tk' o' p' sl) m.toNat := pl_ct_e _ (fun k hk => by
    have r1 := ho k (by omega) (by omega)
    have r2 := hp k (by omega) (by omega)
    have q1 := hr _ r1.1 (by omega)
    have q2 := hr _ r2.1 (by omega)
    unfold pl_of
    rw [eo k (by omega) (by omega), ep k (by omega) (by omega), et _ r1.1 (by omega), et _ r2.1 (by omega), ea _ r1.1 (by omega), ea _ r2.1 (by omega), sq _ _ q1.1 q1.2 q2.1 q2.2])
  have c4 : pl_pa (pl_P2 ax dp) n.toNat = pl_pa (pl_P2 ax' dp') n.toNat := pl_pa_e (fun v w hv hw => by
    unfold pl_P2
    rw [ed v (by omega) (by omega), ed w (by omega) (by omega), ea v (by omega) (by omega), ea w (by omega) (by omega)])
  unfold pl_all
  rw [c1, c2, c3, c4]
def pl_An (sl X n : Int) : Prop := ((0 ≤ sl ∧ sl ≤ 50) ∧ n = X) ∨ (¬ (0 ≤ sl ∧ sl ≤ 50) ∧ n = -1)
theorem iv_p140 (A : Nat → Nat) (cmp : Bool) : iv_pair (iv_J A) A 140 263 [0] cmp false := iv_armV (fun W b h as M hJ hM hInv hs hR => by
  obtain ⟨m1, ys, rfl, -, hs⟩ := iv_spc hs
  obtain rfl := iv_sp0 hs
  have b0 := xm_f0 (xa_H_Mok hM)
  have b6 := xm_f6 (xa_H_Mok hM)
  have r1 : iv_num h 1 9 = M 60 0 := hR.1.1
  have r2 : iv_num h 1 10 = M 60 6 := hR.1.2.1
  have r3 : ∀ i, 0 ≤ i → i < 14 → iv_num h 2 i = M 61 i ∧ iv_num h 3 i = M 62 i ∧ iv_num h 5 i = M 64 i ∧ iv_num h 6 i = M 65 i ∧ iv_num h 4 i = M 63 i := hR.1.2.2.1
  have r4 : ∀ i, 0 ≤ i → i < 16 → iv_num h 7 i = M 66 i ∧ iv_num h 8 i = M 67 i := hR.1.2.2.2
  have hS := hR.2
  have hX : lm_X (xj (iv_num h) M) := hR.2.2
  have hMk := xa_H_Mok hM
  have p9 : ∀ i, 0 ≤ i → i < 10 → iv_num h 9 i = M 68 i := hX.2.2.2.2.2.2.2.2.2.2.2.2.2.2.1
  have p10 : ∀ i, 0 ≤ i → i < 10 → iv_num h 10 i = M 69 i := hX.2.2.2.2.2.2.2.2.2.2.2.2.2.2.2
  have q9 : ∀ i, 0 ≤ i → i < 10 → -500 ≤ iv_num h 9 i ∧ iv_num h 9 i ≤ 500 := fun i i0 i1 => by rw [p9 i i0 i1]; exact xm_t68 hMk i i0 i1
  have q10 : ∀ i, 0 ≤ i → i < 10 → -500 ≤ iv_num h 10 i ∧ iv_num h 10 i ≤ 500 := fun i i0 i1 => by rw [p10 i i0 i1]; exact xm_t69 hMk i i0 i1
  have q5 : ∀ i, 0 ≤ i → i < 14 → 0 ≤ iv_num h 5 i ∧ iv_num h 5 i ≤ 9 := fun i i0 i1 => by rw [(r3 i i0 i1).2.2.1]; exact xm_t64 hMk i i0 i1
  have q6 : ∀ i, 0 ≤ i → i < 14 → 0 ≤ iv_num h 6 i ∧ iv_num h 6 i ≤ 9 := fun i i0 i1 => by rw [(r3 i i0 i1).2.2.2.1]; exact xm_t65 hMk i i0 i1
  have o66 : ∀ i, 0 ≤ i → i < M 60 6 → 0 ≤ M 66 i ∧ M 66 i ≤ 13 := fun i i0 i1 => xm_t66 hMk i i0 (by omega)
  have o67 : ∀ i, 0 ≤ i → i < M 60 6 → 0 ≤ M 67 i ∧ M 67 i ≤ 13 := fun i i0 i1 => xm_t67 hMk i i0 (by omega)
  have e : pl_all (iv_num h 9) (iv_num h 10) (iv_num h 5) (iv_num h 6) (iv_num h 4) (iv_num h 7) (iv_num h 8) (iv_num h 1 9) (iv_num h 1 10) m1.toInt = pl_all (M 68) (M 69) (M 64) (M 65) (M 63) (M 66) (M 67) (M 60 0) (M 60 6) m1.toInt := by
    rw [r1, r2]
    exact pl_all_e b0.2 b6.2 p9 p10 (fun i i0 i1 => (r3 i i0 i1).2.2.1) (fun i i0 i1 => (r3 i i0 i1).2.2.2.1) (fun i i0 i1 => (r3 i i0 i1).2.2.2.2) (fun i i0 i1 => (r4 i i0 i1).1) (fun i i0 i1 => (r4 i i0 i1).2) (fun i i0 i1 => xm_t64 hMk i i0 i1) o66 o67
  have hF : pl_F (iv_num h) := ⟨by omega, by omega, fun k k0 k1 => by
    have a1 := (r4 k k0 (by omega)).1
    have a2 := (r4 k k0 (by omega)).2
    have u1 := o66 k k0 (by omega)
    have u2 := o67 k k0 (by omega)
    omega, q9, q10, q5, q6, fun i i0 i1 => by
    have a1 := (r3 i i0 i1).2.2.2.2
    have a2 := xm_t63 hMk i i0 i1
    omega⟩
  have hc := cw_140 (b := b) (A := A) (h0 := h) (d := 53) (M := iv_num h) (l1 := -2147483648) (u1 := 2147483647) (sl := m1.toInt) (post := fun o M1 => ∃ lo hi n, o = some (0, 0, lo, hi, n) ∧ (pl_An m1.toInt (pl_all (M 68) (M 69) (M 64) (M 65) (M 63) (M 66) (M 67) (M 60 0) (M 60 6) m1.toInt) n ∧ pl_K (iv_num h) M1)) hF (fun hs M1 hK => ⟨_, _, _, rfl, Or.inl ⟨hs, e⟩, hK⟩) (fun hs => ⟨_, _, _, rfl, Or.inr ⟨hs, rfl⟩, fun _ _ _ _ => rfl⟩)
  have hm := fun (h1 : g_H) => ms_roomF (A := A) (h0 := h1) (d := 57) (M := M) (l1 := -2147483648) (u1 := 2147483647) (a := m1.toInt) (post := fun o M2 => (∃ lo hi n, o = some (0, 0, lo, hi, n) ∧ (pl_An m1.toInt (pl_all (M 68) (M 69) (M 64) (M 65) (M 63) (M 66) (M 67) (M 60 0) (M 60 6) m1.toInt) n ∧ xm_cor M M2)) ∧ xm_Inv M2) hInv (fun hs M2 hc => ⟨⟨_, _, _, rfl, Or.inl ⟨hs, rfl⟩, hc⟩, xm_Inv_cor hc hInv⟩) (fun hs M2 hc => ⟨⟨_, _, _, rfl, Or.inr ⟨hs, rfl⟩, hc⟩, xm_Inv_cor hc hInv⟩)
  refine ⟨[(2, 0, 0, 0, 0), (0, 0, -2147483648, 2147483647, m1.toInt)], [(2, 60, 0, 0, 0), (0, 0, -2147483648, 2147483647, m1.toInt)], _, _, ⟨rfl, iv_i m1, trivial⟩, ⟨rfl, iv_i m1, trivial⟩, fun n n' M1 M2 h1 h2 => ⟨fun _ => ?_, fun x => h2.2 104 x (by unfold xm_scr; omega), fun x => h2.2 105 x (by unfold xm_scr; omega), xq_lmR hR (fun q j hC hq => h1.2 q j (by first | (have t9 := lm_Cq hC; omega) | (unfold lm_C at hC; omega)) (by first | (have t9 := lm_Cq hC; omega) | (unfold lm_C at hC; omega))) h2.2⟩, hc, hm⟩
  rcases h1.1 with ⟨a1, a2⟩ | ⟨a1, a2⟩
  · rcases h2.1 with ⟨c1, c2⟩ | ⟨c1, c2⟩
    · exact a2.trans c2.symm
    · exact absurd a1 c1
  · rcases h2.1 with ⟨c1, c2⟩ | ⟨c1, c2⟩
    · exact absurd c1 a1
    · exact a2.trans c2.symm)
