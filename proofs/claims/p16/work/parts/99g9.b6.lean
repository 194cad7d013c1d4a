-- pairs of calls: sign, end, book
set_option maxRecDepth 20000
theorem lm_nS {q : Nat} {j : Int} (hC : lm_C q j) (hS : ¬ lm_CS q j) : q ≤ 8 ∨ (q = 60 ∧ (j = 0 ∨ j = 6)) ∨ (61 ≤ q ∧ q ≤ 67) := by
  rcases hC with h | h | h | h | h | h | h | h | h | h | h | h | h
  · exact Or.inl (by omega)
  · exact absurd (show lm_CS q j from (Or.inl h)) hS
  · exact absurd (show lm_CS q j from (Or.inr (Or.inl h))) hS
  · exact absurd (show lm_CS q j from (Or.inr (Or.inr (Or.inl h)))) hS
  · exact Or.inl (by omega)
  · exact Or.inl (by omega)
  · exact absurd (show lm_CS q j from (Or.inr (Or.inr (Or.inr (Or.inl h))))) hS
  · exact absurd (show lm_CS q j from (Or.inr (Or.inr (Or.inr (Or.inr (Or.inl h)))))) hS
  · obtain ⟨hq, h⟩ := h
    rcases h with h | h | h | h
    · exact Or.inr (Or.inl ⟨hq, by omega⟩)
    · exact Or.inr (Or.inl ⟨hq, by omega⟩)
    · exact absurd (show lm_CS q j from (Or.inr (Or.inr (Or.inr (Or.inr (Or.inr (Or.inl ⟨hq, (Or.inl h)⟩))))))) hS
    · exact absurd (show lm_CS q j from (Or.inr (Or.inr (Or.inr (Or.inr (Or.inr (Or.inl ⟨hq, (Or.inr h)⟩))))))) hS
  · exact Or.inr (Or.inr (by omega))
  · exact Or.inr (Or.inr (by omega))
  · exact absurd (show lm_CS q j from (Or.inr (Or.inr (Or.inr (Or.inr (Or.inr (Or.inr (Or.inl h)))))))) hS
  · exact absurd (show lm_CS q j from (Or.inr (Or.inr (Or.inr (Or.inr (Or.inr (Or.inr (Or.inr h)))))))) hS
theorem lm_Sx {b : Bool} {U V : xa_M} : lm_S b (xj U V) ↔ (U 30 1 = V 60 18 ∧ (∀ i, 0 ≤ i → i < 80 → U 31 i = V 73 i % 256) ∧ U (bk_p b) 4 = V 60 11 ∧ ∀ i, 0 ≤ i → i < 8 → i < V 60 11 → U (bk_p b + 1) i = V 70 i ∧ U (bk_p b + 2) i = V 71 i ∧ U (bk_p b + 3) i = bk_n (V 72 i)) := by
  cases b <;> exact Iff.rfl
theorem lm_R0x {U V U' V' : xa_M} (h : lm_R0 (xj U V)) (e1 : ∀ q j, lm_C q j → ¬ lm_CS q j → q < 60 → U' q j = U q j) (e2 : ∀ q j, lm_C q j → ¬ lm_CS q j → ¬ q < 60 → V' q j = V q j) : lm_R0 (xj U' V') := by
  have e : ∀ q j, lm_C q j → ¬ lm_CS q j → xj U' V' q j = xj U V q j := by
    intro q j hC hS
    unfold xj
    by_cases hq : q < 60
    · rw [if_pos hq, if_pos hq]
      exact e1 q j hC hS hq
    · rw [if_neg hq, if_neg hq]
      exact e2 q j hC hS hq
  obtain ⟨h1, h2, h3, h4⟩ := h
  have f : ∀ q j, lm_C q j → ¬ lm_CS q j → xj U' V' q j = xj U V q j := e
  refine ⟨?_, ?_, fun i i0 i1 => ?_, fun i i0 i1 => ?_⟩
  · rw [f 1 9 (by unfold lm_C; omega) (by unfold lm_CS; omega), f 60 0 (by unfold lm_C; omega) (by unfold lm_CS; omega)]
    exact h1
  · rw [f 1 10 (by unfold lm_C; omega) (by unfold lm_CS; omega), f 60 6 (by unfold lm_C; omega) (by unfold lm_CS; omega)]
    exact h2
  · have g := h3 i i0 i1
    rw [f 2 i (by unfold lm_C; omega) (by unfold lm_CS; omega), f 3 i (by unfold lm_C; omega) (by unfold lm_CS; omega), f 5 i (by unfold lm_C; omega) (by unfold lm_CS; omega), f 6 i (by unfold lm_C; omega) (by unfold lm_CS; omega), f 61 i (by unfold lm_C; omega) (by unfold lm_CS; omega), f 62 i (by unfold lm_C; omega) (by unfold lm_CS; omega), f 64 i (by unfold lm_C; omega) (by unfold lm_CS; omega), f 65 i (by unfold lm_C; omega) (by unfold lm_CS; omega), f 4 i (by unfold lm_C; omega) (by unfold lm_CS; omega), f 63 i (by unfold lm_C; omega) (by unfold lm_CS; omega)]
    exact g
  · have g := h4 i i0 i1
    rw [f 7 i (by unfold lm_C; omega) (by unfold lm_CS; omega), f 8 i (by unfold lm_C; omega) (by unfold lm_CS; omega), f 66 i (by unfold lm_C; omega) (by unfold lm_CS; omega), f 67 i (by unfold lm_C; omega) (by unfold lm_CS; omega)]
    exact g
/-- the text has become another, the book is as it was -/
theorem lm_Rt {b : Bool} {U V U' V' : xa_M} (h : lm_R b (xj U V)) (h1 : U' 30 1 = V' 60 18) (h2 : ∀ i, 0 ≤ i → i < 80 → U' 31 i = V' 73 i % 256) (e1 : ∀ q j, lm_C q j → q < 60 → ¬ (q = 30 ∧ j = 1) → ¬ q = 31 → U' q j = U q j) (e2 : ∀ q j, lm_C q j → ¬ q < 60 → ¬ (q = 60 ∧ j = 18) → ¬ q = 73 → V' q j = V q j) : lm_R b (xj U' V') := by
  refine ⟨lm_R0x h.1 (fun q j hC hS hq => e1 q j hC hq (fun e => by have t := lm_nS hC hS; omega) (fun e => by have t := lm_nS hC hS; omega)) (fun q j hC hS hq => e2 q j hC hq (fun e => by have t := lm_nS hC hS; omega) (fun e => by have t := lm_nS hC hS; omega)), ?_⟩
  obtain ⟨-, -, s3, s4⟩ := lm_Sx.mp h.2
  have v11 : V' 60 11 = V 60 11 := e2 60 11 (by unfold lm_C; omega) (by omega) (by omega) (by omega)
  refine lm_Sx.mpr ⟨h1, h2, ?_, fun i i0 i1 i2 => ?_⟩
  · rw [v11, ← s3]
    cases b
    · exact e1 50 4 (by unfold lm_C; omega) (by omega) (by omega) (by omega)
    · exact e1 55 4 (by unfold lm_C; omega) (by omega) (by omega) (by omega)
  · rw [v11] at i2
    have g := s4 i i0 i1 i2
    rw [e2 70 i (by unfold lm_C; omega) (by omega) (by omega) (by omega), e2 71 i (by unfold lm_C; omega) (by omega) (by omega) (by omega), e2 72 i (by unfold lm_C; omega) (by omega) (by omega) (by omega)]
    cases b
    · refine ⟨(e1 51 i (by unfold lm_C; omega) (by omega) (by omega) (by omega)).trans g.1, (e1 52 i (by unfold lm_C; omega) (by omega) (by omega) (by omega)).trans g.2.1, (e1 53 i (by unfold lm_C; omega) (by omega) (by omega) (by omega)).trans g.2.2⟩
    · refine ⟨(e1 56 i (by unfold lm_C; omega) (by omega) (by omega) (by omega)).trans g.1, (e1 57 i (by unfold lm_C; omega) (by omega) (by omega) (by omega)).trans g.2.1, (e1 58 i (by unfold lm_C; omega) (by omega) (by omega) (by omega)).trans g.2.2⟩
/-- a pair of calls, told by what each does -/
theorem iv_armV {A : Nat → Nat} {jx jm : Nat} {spec : List Nat} {cmp : Bool} (H : ∀ (W : y_W) (b : Bool) (h : g_H) (as : List Value) (M : xa_M), iv_JW A W b h → xa_H xm_I A M h h → xm_Inv M → iv_sp spec as → lm_R b (xj (iv_num h) M) → ∃ (vs ms : List xa_V) (Px Pm : Int → xa_M → Prop), xa_gS A vs (.ref (A 0) :: as) ∧ xa_gS A ms (.ref (A 60) :: as) ∧ (∀ n n' M1 M2, Px n M1 → Pm n' M2 → (cmp = true → n = n') ∧ (∀ x, M2 104 x = M 104 x) ∧ (∀ x, M2 105 x = M 105 x) ∧ lm_R b (xj M1 M2)) ∧ xa_C (xl_I b) A h 60 jx vs (iv_num h) (fun o M1 => ∃ lo hi n, o = some (0, 0, lo, hi, n) ∧ Px n M1) ∧ ∀ h1 : g_H, xa_C xm_I A h1 60 jm ms M (fun o M2 => (∃ lo hi n, o = some (0, 0, lo, hi, n) ∧ Pm n M2) ∧ xm_Inv M2)) : iv_pair (iv_J A) A jx jm spec cmp false := by
  intro h as hI hs
  obtain ⟨W, b, hJ⟩ := hI
  obtain ⟨M, hM, hInv⟩ := hJ.1.2.2
  obtain ⟨vs, ms, Px, Pm, g1, g2, g0, g3, g4⟩ := H W b h as M hJ hM hInv hs (iv_xj hJ hM)
  refine ⟨0, 0, by decide, by decide, g_run_mono (iv_xrun hJ g1 g3) (fun r1 h1 hp => ?_)⟩
  obtain ⟨v, M1, ⟨lo, hi, n, rfl, hn⟩, hr, hX⟩ := hp
  obtain ⟨hI1, km⟩ := xc_B (xl_fit b) hJ.1 hX
  have hM1 := km M hM
  obtain ⟨z, rfl, hz⟩ := iv_gRi hr
  refine ⟨z, rfl, iv_sh_ok (iv_iW_inv hI1), g_run_mono (iv_mrun hM1 g2 (g4 h1)) (fun r2 h2 hp2 => ?_)⟩
  obtain ⟨v2, M2, ⟨⟨lo2, hi2, n2, rfl, hn2⟩, hInv2⟩, hr2, hM2⟩ := hp2
  obtain ⟨z2, rfl, hz2⟩ := iv_gRi hr2
  obtain ⟨q0, q4, q5, qR⟩ := g0 _ _ _ _ hn hn2
  exact ⟨⟨z2, rfl, fun hc => Int32.toInt_inj.mp (by rw [hz, hz2]; exact q0 hc)⟩, W, b, iv_join hJ hM hX hM2 hInv2 q4 q5 qR⟩
/-- what holds of the class, its numbers named -/
def iv_Q (A : Nat → Nat) (W : y_W) (b : Bool) (h : g_H) (N : xa_M) : Prop := iv_iW A W h ∧ iv_F b A h ∧ iv_kept W h ∧ ∀ q j, q < 60 → lm_C q j → iv_num h q j = N q j
theorem iv_Qc {A : Nat → Nat} {W : y_W} {b : Bool} {h : g_H} {N M : xa_M} (hQ : iv_Q A W b h N) (hM : xa_H xm_I A M h h) {d j : Nat} {vs : List xa_V} {xs : List Value} (hx : xa_gS A vs xs) {Px : Option xa_V → xa_M → Prop} (hC : xa_C (xl_I b) A h d j vs (iv_num h) Px) : g_run d j xs h 0 0 (fun r h1 => ∃ v M1, Px v M1 ∧ xa_gR A v r ∧ iv_Q A W b h1 M1 ∧ xa_H xm_I A M h1 h1 ∧ (∀ x : Int, 0 ≤ x → x < 496 → iv_num h1 104 x = iv_num h 104 x)) := by
  refine hC h xs (xc_F (xl_fit b) (iv_iW_inv hQ.1) hQ.2.1) hx _ (fun v M' x h' hv hr hX => ?_)
  obtain ⟨hI1, km⟩ := xc_B (xl_fit b) hQ.1 hX
  have out : ∀ q, ¬ q < 60 → h'[q]? = h[q]? := fun q hq => hX.2.2 q (xl_no hq)
  refine ⟨v, M', hv, hr, ⟨hI1, iv_F_X hX, iv_kept_k (List.prefix_refl W) ?_ ?_ ?_ ?_ ?_ hQ.2.2.1, fun q j hq hC => iv_num_x hX hC hq⟩, km M hM, fun x _ _ => iv_num_h (out 104 (by omega)) _⟩
  · intro i hi
    unfold iv_ct
    rw [hX.2.2 11 rfl]
  · intro i hi
    exact iv_num_h (out 105 (by omega)) _
  · intro x x0 x1
    exact iv_num_h (out 104 (by omega)) _
  · intro p a f hp hw e
    exact ⟨f, by rw [out p (by omega)]; exact e, fun _ _ => rfl⟩
  · intro k p a F hk hp hw e
    exact ⟨F, by rw [out p (by omega)]; exact e, fun _ _ _ => rfl⟩
/-- the reference has gone too -/
theorem iv_Qm {A : Nat → Nat} {W : y_W} {b : Bool} {h h1 : g_H} {N M M1 : xa_M} (hQ : iv_Q A W b h N) (hM : xa_H xm_I A M h h) (hM' : xa_H xm_I A M1 h h1) (hInv : xm_Inv M1) (k4 : ∀ x, M1 104 x = M 104 x) (k5 : ∀ x, M1 105 x = M 105 x) (hR : lm_R b (xj N M1)) : iv_JW A W b h1 := by
  obtain ⟨hI, hr, hK, hN⟩ := hQ
  have low : ∀ q, ¬ (60 ≤ q ∧ q ≤ 105) → h1[q]? = h[q]? := fun q hq => hM'.2.2 q (xm_I_none hq)
  refine ⟨⟨iv_cls_kW hI.1 hI.2.1 hM', hI.2.1, M1, ⟨rfl, hM'.2.1, fun _ _ => rfl⟩, hInv⟩, iv_F_h (fun q hq => low q (by omega)) hr, lm_R_k (fun q j hC => ?_) hR, iv_kept_k (List.prefix_refl W) ?_ ?_ ?_ ?_ ?_ hK⟩
  · unfold xj
    by_cases hq : q < 60
    · rw [if_pos hq, iv_num_h (low q (by omega)) j]
      exact hN q j hq hC
    · rw [if_neg hq, iv_num_m hM' hC hq]
  · intro i hi
    unfold iv_ct
    rw [low 11 (by omega)]
  · intro i hi
    rw [iv_105 hM' (by omega) (by omega), iv_105 hM (by omega) (by omega)]
    exact k5 i
  · intro x x0 x1
    rw [iv_104 hM' x0 x1, iv_104 hM x0 x1]
    exact k4 x
  · intro p a f hp hw e
    exact ⟨f, (low p (by omega)).trans e, fun _ _ => rfl⟩
  · intro k p a F hk9 hp hw e
    exact ⟨F, (low p (by omega)).trans e, fun _ _ _ => rfl⟩
/-- what the class's book does -/
def lk_P (T : Int → Int) (N0 : xa_M) (b b' : Bool) (v : Int) (N : xa_M) : Prop := ∃ U W X : Int → Int, bk_R T (N0 30 1) v U W X ∧ ((0 ≤ v ∧ b' = !b ∧ N (bk_p b') 4 = v ∧ ∀ i, 0 ≤ i → i < 8 → N (bk_p b' + 1) i = U i ∧ N (bk_p b' + 2) i = W i ∧ N (bk_p b' + 3) i = X i) ∨ (v < 0 ∧ b' = b)) ∧ N 30 1 = 0 ∧ ∀ q j, lm_C q j → q < 60 → ¬ (q = 30 ∧ j = 1) → ¬ (q = bk_p (!b) ∨ q = bk_p (!b) + 1 ∨ q = bk_p (!b) + 2 ∨ q = bk_p (!b) + 3) → N q j = N0 q j
theorem lt_is {M M1 : xa_M} (h : ∀ q j, ¬ q = 73 → ¬ (q = 60 ∧ j = 18) → ¬ (q = 60 ∧ j = 21) → M1 q j = M q j) : xm_is M M1 := by
  intro q j hq
  refine h q j ?_ ?_ ?_
  all_goals
    intro e
    unfold xm_icB at hq
    simp only [Bool.or_eq_true, Bool.and_eq_true, Nat.beq_eq, decide_eq_true_eq] at hq
    omega
theorem lt_inv {M M1 : xa_M} {s n : Int} {f : Int → Int} (hI : xm_Inv M) (h : lt_P M 73 60 18 s f n M1) : xm_Inv M1 := by
  refine xm_Inv_is (lt_is (fun q j h1 h2 h3 => ?_)) hI
  rcases h with ⟨-, -, a3⟩ | ⟨-, -, -, -, -, -, -, -, a9⟩
  · exact a3 q j h3
  · exact a9 q j h1 h2 h3
theorem le_inv {M M1 : xa_M} {s a n : Int} (hI : xm_Inv M) (h : lt_E M 60 18 s a n M1) : xm_Inv M1 := by
  refine xm_Inv_is (lt_is (fun q j h1 h2 h3 => ?_)) hI
  rcases h with ⟨-, -, -, a4⟩ | ⟨-, -, a3⟩
  · exact a4 q j h2 h3
  · exact a3 q j h3
theorem iv_p110 (A : Nat → Nat) (cmp : Bool) : iv_pair (iv_J A) A 110 250 [0] cmp false := iv_armV (fun W b h as M hJ hM hInv hs hR => by
  obtain ⟨m1, ys, rfl, -, hs⟩ := iv_spc hs
  obtain rfl := iv_sp0 hs
  obtain ⟨s1, s2, s3, s4⟩ := lm_Sx.mp hR.2
  have hMk := xa_H_Mok hM
  have b18 := xm_f18 hMk
  have b11 := xm_f11 hMk
  have hc := cw_110 (b := b) (A := A) (h0 := h) (d := 57) (M := iv_num h) (l1 := -2147483648) (u1 := 2147483647) (x1 := m1.toInt) (post := fun o M1 => ∃ lo hi n, o = some (0, 0, lo, hi, n) ∧ lt_P (iv_num h) 31 30 1 (iv_num h 30 1) (fun a => xa_ib 3 (xa_ib 7 m1.toInt a) 255) n M1) (by rw [s1]; exact b18) (fun n M1 hP => ⟨_, _, n, rfl, hP⟩)
  have hm := fun (h1 : g_H) => ms_signF (A := A) (h0 := h1) (d := 59) (M := M) (l1 := -2147483648) (u1 := 2147483647) (x1 := m1.toInt) (post := fun o M2 => (∃ lo hi n, o = some (0, 0, lo, hi, n) ∧ lt_P M 73 60 18 (M 60 18) (fun a => xa_i8 (xa_ib 7 m1.toInt a)) n M2) ∧ xm_Inv M2) hInv (fun n M2 hP => ⟨⟨_, _, n, rfl, hP⟩, lt_inv hInv hP⟩)
  rw [s1] at hc
  refine ⟨[(2, 0, 0, 0, 0), (0, 0, -2147483648, 2147483647, m1.toInt)], [(2, 60, 0, 0, 0), (0, 0, -2147483648, 2147483647, m1.toInt)], _, _, ⟨rfl, iv_i m1, trivial⟩, ⟨rfl, iv_i m1, trivial⟩, fun n n' M1 M2 h1 h2 => ?_, hc, hm⟩
  rcases h1 with ⟨a1, a2, a3⟩ | ⟨a1, a2, a3, a4, a5, a6, a7, a8, a9⟩
  · rcases h2 with ⟨c1, c2, c3⟩ | ⟨c1, -⟩
    · refine ⟨fun _ => by omega, fun x => c3 104 x (by omega), fun x => c3 105 x (by omega), lm_Rt hR ?_ (fun i i0 i1 => ?_) (fun q j _ hq _ _ => a3 q j (by omega)) (fun q j hC hq _ _ => c3 q j (by unfold lm_C at hC; omega))⟩
      · rw [a3 30 1 (by omega), c3 60 18 (by omega)]
        exact s1
      · rw [a3 31 i (by omega), c3 73 i (by omega)]
        exact s2 i i0 i1
    · omega
  · rcases h2 with ⟨c1, -⟩ | ⟨c1, c2, c3, c4, c5, c6, c7, c8, c9⟩
    · omega
    · refine ⟨fun _ => by omega, fun x => c9 104 x (by omega) (by omega) (by omega), fun x => c9 105 x (by omega) (by omega) (by omega), lm_Rt hR (by omega) (fun i i0 i1 => ?_) (fun q j _ hq d1 d2 => a9 q j d2 d1 (by omega)) (fun q j hC hq d1 d2 => c9 q j d2 d1 (by unfold lm_C at hC; omega))⟩
      by_cases e0 : M 60 18 ≤ i ∧ i < M 60 18 + 4
      · rcases (show i = M 60 18 ∨ i = M 60 18 + 1 ∨ i = M 60 18 + 2 ∨ i = M 60 18 + 3 by omega) with e | e | e | e
        · rw [e, a4, c4]
          exact bk_i8 _
        · rw [e, a5, c5]
          exact bk_i8 _
        · rw [e, a6, c6]
          exact bk_i8 _
        · rw [e, a7, c7]
          exact bk_i8 _
      · rw [a8 i e0, c8 i e0]
        exact s2 i i0 i1)
theorem iv_p112 (A : Nat → Nat) (cmp : Bool) : iv_pair (iv_J A) A 112 251 [0] cmp false := iv_armV (fun W b h as M hJ hM hInv hs hR => by
  obtain ⟨m1, ys, rfl, -, hs⟩ := iv_spc hs
  obtain rfl := iv_sp0 hs
  obtain ⟨s1, s2, s3, s4⟩ := lm_Sx.mp hR.2
  have hMk := xa_H_Mok hM
  have b18 := xm_f18 hMk
  have b11 := xm_f11 hMk
  have hc := cw_112 (b := b) (A := A) (h0 := h) (d := 58) (M := iv_num h) (l1 := -2147483648) (u1 := 2147483647) (x1 := m1.toInt) (post := fun o M1 => ∃ lo hi n, o = some (0, 0, lo, hi, n) ∧ lt_E (iv_num h) 30 1 (iv_num h 30 1) m1.toInt n M1) (fun n M1 hP => ⟨_, _, n, rfl, hP⟩)
  have hm := fun (h1 : g_H) => ms_endF (A := A) (h0 := h1) (d := 58) (M := M) (l1 := -2147483648) (u1 := 2147483647) (x1 := m1.toInt) (post := fun o M2 => (∃ lo hi n, o = some (0, 0, lo, hi, n) ∧ lt_E M 60 18 (M 60 18) m1.toInt n M2) ∧ xm_Inv M2) hInv (fun n M2 hP => ⟨⟨_, _, n, rfl, hP⟩, le_inv hInv hP⟩)
  rw [s1] at hc
  refine ⟨[(2, 0, 0, 0, 0), (0, 0, -2147483648, 2147483647, m1.toInt)], [(2, 60, 0, 0, 0), (0, 0, -2147483648, 2147483647, m1.toInt)], _, _, ⟨rfl, iv_i m1, trivial⟩, ⟨rfl, iv_i m1, trivial⟩, fun n n' M1 M2 h1 h2 => ?_, hc, hm⟩
  rcases h1 with ⟨a1, a2, a3, a4⟩ | ⟨a1, a2, a3⟩
  · rcases h2 with ⟨c1, c2, c3, c4⟩ | ⟨c1, -⟩
    · refine ⟨fun _ => by omega, fun x => c4 104 x (by omega) (by omega), fun x => c4 105 x (by omega) (by omega), lm_Rt hR (by omega) (fun i i0 i1 => ?_) (fun q j _ hq d1 d2 => a4 q j d1 (by omega)) (fun q j hC hq d1 d2 => c4 q j d1 (by unfold lm_C at hC; omega))⟩
      rw [a4 31 i (by omega) (by omega), c4 73 i (by omega) (by omega)]
      exact s2 i i0 i1
    · omega
  · rcases h2 with ⟨c1, -⟩ | ⟨c1, c2, c3⟩
    · omega
    · refine ⟨fun _ => by omega, fun x => c3 104 x (by omega), fun x => c3 105 x (by omega), lm_Rt hR ?_ (fun i i0 i1 => ?_) (fun q j _ hq _ _ => a3 q j (by omega)) (fun q j hC hq _ _ => c3 q j (by unfold lm_C at hC; omega))⟩
      · rw [a3 30 1 (by omega), c3 60 18 (by omega)]
        exact s1
      · rw [a3 31 i (by omega), c3 73 i (by omega)]
        exact s2 i i0 i1)
/-- the two books change places -/
theorem iv_Qs {A : Nat → Nat} {W : y_W} {b : Bool} {h : g_H} {N M : xa_M} (hQ : iv_Q A W b h N) (hM : xa_H xm_I A M h h) {f0 : Nat → Value} (h0 : h[0]? = some (A 0, false, 11, 12, f0)) : iv_Q A W (!b) (h.set 0 (A 0, false, 11, 12, g_up (g_up f0 10 (.ref (A (iv_S b 11)))) 11 (.ref (A (iv_S b 10))))) N ∧ xa_H xm_I A M (h.set 0 (A 0, false, 11, 12, g_up (g_up f0 10 (.ref (A (iv_S b 11)))) 11 (.ref (A (iv_S b 10))))) (h.set 0 (A 0, false, 11, 12, g_up (g_up f0 10 (.ref (A (iv_S b 11)))) 11 (.ref (A (iv_S b 10))))) := by
  obtain ⟨hIW, hF, hK, hN⟩ := hQ
  obtain ⟨⟨β, hH⟩, hW, M0, hM0, hInv⟩ := hIW
  have ho : ∀ q, ¬ q = 0 → (h.set 0 (A 0, false, 11, 12, g_up (g_up f0 10 (.ref (A (iv_S b 11)))) 11 (.ref (A (iv_S b 10)))))[q]? = h[q]? := fun q hq => iv_get_set (Ne.symm hq)
  have hs := iv_get_self (c := (A 0, false, 11, 12, g_up (g_up f0 10 (.ref (A (iv_S b 11)))) 11 (.ref (A (iv_S b 10))))) h0
  generalize hg : h.set 0 (A 0, false, 11, 12, g_up (g_up f0 10 (.ref (A (iv_S b 11)))) 11 (.ref (A (iv_S b 10)))) = h' at ho hs ⊢
  have km : ∀ M : xa_M, xa_H xm_I A M h h → xa_H xm_I A M h' h' := fun M hM => by
    refine ⟨rfl, fun q ro S hq => ?_, fun _ _ => rfl⟩
    obtain ⟨f, x1, x2⟩ := hM.2.1 q ro S hq
    have hlt := xm_I_lt hq
    exact ⟨f, by rw [ho q (by omega)]; exact x1, x2⟩
  refine ⟨⟨⟨⟨β, ?_⟩, hW, M0, km M0 hM0, hInv⟩, ?_, iv_kept_k (List.prefix_refl W) ?_ ?_ ?_ ?_ ?_ hK, fun q j hq hC => ?_⟩, km M hM⟩
  · obtain ⟨ro, fx, x1, x2, x3⟩ := hH.2.1 0 (A 0) 0 (hW 0 0 rfl)
    cases x1
    rw [h0] at x2
    have x2 := Option.some.inj x2
    simp only [Prod.mk.injEq] at x2
    obtain ⟨-, -, -, -, rfl⟩ := x2
    rw [← hg]
    refine y_H_ct (y_H_set hH (hW 0 0 rfl) rfl h0 (fun p hp hpr => ?_) (fun j hj => ?_))
    · have hp' : p = (300001, 8, 5) := by
        have : p ∈ [(300001, 8, 5)] := hp
        simpa using this
      subst hp'
      cases hpr
    · unfold g_up
      by_cases e1 : j = 11
      · subst e1
        exact ⟨iv_S b 10, A (iv_S b 10), rfl, hW _ _ (iv_S_rl b 10)⟩
      · rw [if_neg e1]
        by_cases e2 : j = 10
        · subst e2
          exact ⟨iv_S b 11, A (iv_S b 11), rfl, hW _ _ (iv_S_rl b 11)⟩
        · rw [if_neg e2]
          exact ((x3 j hj).resolve_left (fun h => by cases h.1)).1
  · intro q ro S hq j hj h2
    by_cases hq0 : q = 0
    · subst hq0
      cases hq
      have hj : j < 12 := hj
      rw [iv_ctZ hs]
      have old := fun j (hj : j < 12) h2 => hF 0 _ _ rfl j hj h2
      by_cases e1 : j = 11
      · subst e1
        show g_up _ 11 _ 11 = _
        unfold g_up
        rw [if_pos rfl]
        cases b <;> rfl
      · by_cases e2 : j = 10
        · subst e2
          show g_up _ 11 _ 10 = _
          unfold g_up
          rw [if_neg (by decide), if_pos rfl]
          cases b <;> rfl
        · have := old j hj h2
          rw [iv_ctZ h0] at this
          show g_up _ 11 _ j = _
          unfold g_up
          rw [if_neg e1, if_neg e2, this]
          rcases j with _ | _ | _ | _ | _ | _ | _ | _ | _ | _ | j
          all_goals first | rfl | omega
    · have := hF q ro S ((xl_b hq0).trans hq) j hj h2
      rw [← this]
      unfold iv_ct
      rw [ho q hq0]
  · intro i hi
    unfold iv_ct
    rw [ho 11 (by decide)]
  · intro i hi
    exact iv_num_h (ho 105 (by decide)) _
  · intro x _ _
    exact iv_num_h (ho 104 (by decide)) _
  · intro p a f hp hw e
    exact ⟨f, (ho p (by omega)).trans e, fun _ _ => rfl⟩
  · intro k p a F hk hp hw e
    exact ⟨F, (ho p (by omega)).trans e, fun _ _ _ => rfl⟩
  · rw [← hN q j hq hC]
    refine iv_num_h (ho q ?_) j
    unfold lm_C at hC
    omega
theorem cx_115s {b : Bool} {A : Nat → Nat} {h0 : g_H} {d : Nat} {M : xa_M} {post : Option xa_V → xa_M → Prop} {T : Int → Int} (hT : (∀ i, 0 ≤ i → i < 80 → M 31 i = T i)) (hz : 0 ≤ M 30 1 ∧ M 30 1 ≤ 80) (k : ∀ (r : Int) (M1 : xa_M), (∀ q j, ¬ (q = bk_p (!b) ∧ 4 ≤ j ∧ j ≤ 7) → ¬ (q = bk_p (!b) + 1 ∨ q = bk_p (!b) + 2 ∨ q = bk_p (!b) + 3) → M1 q j = M q j) → bk_R T (M 30 1) r (M1 (bk_p (!b) + 1)) (M1 (bk_p (!b) + 2)) (M1 (bk_p (!b) + 3)) → (0 ≤ r → M1 (bk_p (!b)) 4 = r) → post (some (0, 0, (-2147483648), 2147483647, r)) M1) : xa_C (xl_I b) A h0 (d + 6) 115 [(2, iv_S b 11, 0, 0, 0), (2, 30, 0, 0, 0)] M post := by
  cases b
  · exact cx_115_55 hT hz k
  · exact cx_115_50 hT hz k
theorem iv_bookQ {A : Nat → Nat} {W : y_W} {b : Bool} {h : g_H} {M : xa_M} (hJ : iv_Q A W b h (iv_num h)) (hM : xa_H xm_I A M h h) {T : Int → Int} (hT : ∀ i, 0 ≤ i → i < 80 → iv_num h 31 i = T i) (hz : 0 ≤ iv_num h 30 1 ∧ iv_num h 30 1 ≤ 80) : g_run 60 114 [.ref (A 0)] h 0 0 (fun r h1 => ∃ (v : Int32) (b1 : Bool) (N : xa_M), r = some (.int v) ∧ iv_Q A W b1 h1 N ∧ xa_H xm_I A M h1 h1 ∧ lk_P T (iv_num h) b b1 v.toInt N) := by
  have cell0 : ∀ {W : y_W} {b : Bool} {h : g_H} {N : xa_M}, iv_Q A W b h N → ∃ f0, h[0]? = some (A 0, false, 11, 12, f0) ∧ f0 4 = .ref (A 30) ∧ f0 10 = .ref (A (iv_S b 10)) ∧ f0 11 = .ref (A (iv_S b 11)) ∧ (∃ f, h[30]? = some (A 30, false, 8, 2, f)) ∧ ∃ f, h[iv_S b 11]? = some (A (iv_S b 11), false, 0, 8, f) := by
    intro W b h N hJ
    obtain ⟨f0, g0⟩ := iv_cell hJ.1 (q := 0) rfl rfl
    have e4 := hJ.2.1 0 _ _ rfl 4 (show 4 < 12 by decide) rfl
    have e10 := hJ.2.1 0 _ _ rfl 10 (show 10 < 12 by decide) rfl
    have e11 := hJ.2.1 0 _ _ rfl 11 (show 11 < 12 by decide) rfl
    rw [iv_ctZ g0] at e4 e10 e11
    exact ⟨f0, g0, e4, by rw [e10]; cases b <;> rfl, by rw [e11]; cases b <;> rfl, iv_cell hJ.1 (q := 30) rfl rfl, iv_cell hJ.1 (iv_S_rl b 11) rfl⟩
  obtain ⟨q1, q2, q3, q4, q5⟩ := s_mi_ok 114 (3, 1, false, 0, 0, 11) (by decide +kernel)
  obtain ⟨c1, c2⟩ := s_codes_ok 114 (3, 1, false, 0, 0, 11) (by decide +kernel)
  rw [show s_codes.getD 114 [] = s_c_114 from rfl] at c1 c2
  have q3 : g_rt 114 = some .int := q3
  refine ⟨q1, by rw [q2]; exact (show 1 ≤ 3 by decide), ?_⟩
  rw [q5, q2, q4]
  intro P hend hcl
  show P (0, [(0, .ref (A 0))], [], 0, 0, h)
  have h115 : (g_me 115).2.1 = 0 := (s_mi_ok 115 _ (show s_mi[115]? = some (5, 1, false, 0, 0, 0) by decide +kernel)).2.2.2.2
  have h113 : (g_me 113).2.1 = 8 := (s_mi_ok 113 _ (show s_mi[113]? = some (2, 2, false, 0, 0, 8) by decide +kernel)).2.2.2.2
  have t115 : g_rt 115 = some .int := (s_mi_ok 115 _ (show s_mi[115]? = some (5, 1, false, 0, 0, 0) by decide +kernel)).2.2.1
  have t113 : g_rt 113 = some .boolean := (s_mi_ok 113 _ (show s_mi[113]? = some (2, 2, false, 0, 0, 8) by decide +kernel)).2.2.1
  have m0 : ((0 : Nat), Value.ref (A 0)) ∈ ([(0, .ref (A 0))] : g_L) := List.mem_cons_self
  -- the text is emptied
  have fin : ∀ (b1 : Bool) (h1 : g_H) (Ls : g_L) (v : Int32) (N : xa_M), iv_Q A W b1 h1 N → xa_H xm_I A M h1 h1 → (∃ U Y X : Int → Int, bk_R T (iv_num h 30 1) v.toInt U Y X ∧ ((0 ≤ v.toInt ∧ b1 = !b ∧ N (bk_p b1) 4 = v.toInt ∧ ∀ i, 0 ≤ i → i < 8 → N (bk_p b1 + 1) i = U i ∧ N (bk_p b1 + 2) i = Y i ∧ N (bk_p b1 + 3) i = X i) ∨ (v.toInt < 0 ∧ b1 = b)) ∧ 0 ≤ N 30 1 ∧ ∀ q j, lm_C q j → q < 60 → ¬ (q = 30 ∧ j = 1) → ¬ (q = bk_p (!b) ∨ q = bk_p (!b) + 1 ∨ q = bk_p (!b) + 2 ∨ q = bk_p (!b) + 3) → N q j = iv_num h q j) → (0, Value.ref (A 0)) ∈ Ls → (1, Value.int v) ∈ Ls → P (34, Ls, [], 0, 0, h1) := by
    intro b1 h1 Ls v N hJ hM hL n0 n1
    obtain ⟨f0, g0, e4, -, -, ⟨f30, g30⟩, -⟩ := cell0 hJ
    refine ir_ld hcl (iv_dec (c2 _ (iv_in (c := []) (pc := 34) rfl)) (by decide) (by decide)) rfl n0 rfl ?_
    refine iv_getfield hcl (c2 _ (iv_in (c := []) (pc := 35) rfl)) (Or.inl rfl) (q := 0) (n := 12) (f := f0) g0 (by decide) ?_
    rw [e4]
    refine ir_co hcl (iv_dec (c2 _ (iv_in (c := []) (pc := 38) rfl)) (by decide) (by decide)) rfl ?_
    refine iv_virt (as := [.int 0]) (rest := []) hcl (c2 _ (iv_in (c := []) (pc := 39) rfl)) (q := 30) (by rw [h113]; exact g30) rfl (by decide) (mc := 0) (ms := 0) (by decide) (by decide) (g_run_rt (iv_Qc (d := 59) hJ hM (vs := [(2, 30, 0, 0, 0), (0, 0, 0, 0, 0)]) (xs := [.ref (A 30), .int 0]) ⟨rfl, ⟨_, rfl, rfl, by decide, by decide⟩, trivial⟩ (cx_113f (d := 58) (M := iv_num h1) (x1 := 0) (post := fun o M2 => ∃ n, o = some (0, 0, 0, 1, n) ∧ lt_E (iv_num h1) 30 1 (iv_num h1 30 1) 0 n M2) (fun n M1 hP => ⟨n, rfl, hP⟩))) (fun r h2 hp hrt => ?_))
    rw [t113] at hrt
    obtain ⟨z, rfl, -⟩ := hrt
    show P (42, Ls, [.int z], 0, 0, h2)
    obtain ⟨v2, N2, ⟨n2, -, hE⟩, -, hQ2, hM2, -⟩ := hp
    have n30 : iv_num h1 30 1 = N 30 1 := hJ.2.2.2 30 1 (by omega) (by unfold lm_C; omega)
    obtain ⟨U, Y, X, l1, l2, l3, l4⟩ := hL
    have hE1 : N2 30 1 = 0 ∧ ∀ q j, lm_C q j → q < 60 → ¬ (q = 30 ∧ j = 1) → N2 q j = N q j := by
      rcases hE with ⟨-, -, e3, e4⟩ | ⟨e1, -⟩
      · exact ⟨e3, fun q j hC hq hn => (e4 q j hn (by omega)).trans (hJ.2.2.2 q j hq hC)⟩
      · exact absurd ⟨Int.le_refl 0, by omega⟩ e1
    have hLK : lk_P T (iv_num h) b b1 v.toInt N2 := by
      refine ⟨U, Y, X, l1, ?_, hE1.1, fun q j hC hq hn hb => (hE1.2 q j hC hq hn).trans (l4 q j hC hq hn hb)⟩
      rcases l2 with ⟨p1, p2, p3, p4⟩ | p
      · refine Or.inl ⟨p1, p2, ?_, fun i i0 i1 => ?_⟩
        · rw [← p3]
          cases b1
          · exact hE1.2 50 4 (by unfold lm_C; omega) (by omega) (by omega)
          · exact hE1.2 55 4 (by unfold lm_C; omega) (by omega) (by omega)
        · have g := p4 i i0 i1
          cases b1
          · exact ⟨(hE1.2 51 i (by unfold lm_C; omega) (by omega) (by omega)).trans g.1, (hE1.2 52 i (by unfold lm_C; omega) (by omega) (by omega)).trans g.2.1, (hE1.2 53 i (by unfold lm_C; omega) (by omega) (by omega)).trans g.2.2⟩
          · exact ⟨(hE1.2 56 i (by unfold lm_C; omega) (by omega) (by omega)).trans g.1, (hE1.2 57 i (by unfold lm_C; omega) (by omega) (by omega)).trans g.2.1, (hE1.2 58 i (by unfold lm_C; omega) (by omega) (by omega)).trans g.2.2⟩
      · exact Or.inr p
    refine ir_pop hcl (iv_dec (c2 _ (iv_in (c := []) (pc := 42) rfl)) (by decide) (by decide)) rfl rfl ?_
    refine ir_ld hcl (iv_dec (c2 _ (iv_in (c := []) (pc := 43) rfl)) (by decide) (by decide)) rfl n1 rfl ?_
    exact hend _ ⟨Nat.le_refl _, Nat.le_refl _, Or.inl ⟨v, .int, iv_ireturn (c2 _ (iv_in (c := []) (pc := 44) rfl)), q3, rfl, rfl, v, b1, N2, rfl, hQ2, hM2, hLK⟩⟩
  obtain ⟨f0, g0, e4, e10, e11, ⟨f30, g30⟩, fs, gs⟩ := cell0 hJ
  refine ir_ld hcl (iv_dec (c2 _ (iv_in (c := []) (pc := 0) rfl)) (by decide) (by decide)) rfl m0 rfl ?_
  refine iv_getfield hcl (c2 _ (iv_in (c := []) (pc := 1) rfl)) (Or.inl rfl) (q := 0) (n := 12) (f := f0) g0 (by decide) ?_
  rw [e11]
  refine ir_ld hcl (iv_dec (c2 _ (iv_in (c := []) (pc := 4) rfl)) (by decide) (by decide)) rfl m0 rfl ?_
  refine iv_getfield hcl (c2 _ (iv_in (c := []) (pc := 5) rfl)) (Or.inl rfl) (q := 0) (n := 12) (f := f0) g0 (by decide) ?_
  rw [e4]
  refine iv_virt (as := [.ref (A 30)]) (rest := []) hcl (c2 _ (iv_in (c := []) (pc := 8) rfl)) (q := iv_S b 11) (by rw [h115]; exact gs) rfl (by decide) (mc := 0) (ms := 0) (by decide) (by decide) (g_run_rt (iv_Qc (d := 59) hJ hM (vs := [(2, iv_S b 11, 0, 0, 0), (2, 30, 0, 0, 0)]) (xs := [.ref (A (iv_S b 11)), .ref (A 30)]) ⟨rfl, rfl, trivial⟩ (cx_115s (d := 53) (M := iv_num h) (T := T) hT hz (post := fun o M1 => ∃ n, o = some (0, 0, (-2147483648), 2147483647, n) ∧ (∀ q j, ¬ (q = bk_p (!b) ∧ 4 ≤ j ∧ j ≤ 7) → ¬ (q = bk_p (!b) + 1 ∨ q = bk_p (!b) + 2 ∨ q = bk_p (!b) + 3) → M1 q j = iv_num h q j) ∧ bk_R T (iv_num h 30 1) n (M1 (bk_p (!b) + 1)) (M1 (bk_p (!b) + 2)) (M1 (bk_p (!b) + 3)) ∧ (0 ≤ n → M1 (bk_p (!b)) 4 = n)) (fun r M1 x1 x2 x3 => ⟨r, rfl, x1, x2, x3⟩))) (fun r h1 hp hrt => ?_))
  rw [t115] at hrt
  obtain ⟨o1, M1, ⟨n, rfl, y1, y2, y3⟩, hr1, hJ1, hM1, -⟩ := hp
  obtain ⟨v, rfl, hv⟩ := iv_gRi hr1
  subst hv
  have n30 : M1 30 1 = iv_num h 30 1 := y1 30 1 (by cases b <;> decide) (by cases b <;> decide)
  have n4 : ∀ q j, lm_C q j → q < 60 → ¬ (q = 30 ∧ j = 1) → ¬ (q = bk_p (!b) ∨ q = bk_p (!b) + 1 ∨ q = bk_p (!b) + 2 ∨ q = bk_p (!b) + 3) → M1 q j = iv_num h q j := fun q j hC hq hn hb => y1 q j (fun e => hb (Or.inl e.1)) (fun e => hb (Or.inr e))
  obtain ⟨f1, x0, x4, x10, x11, -, -⟩ := cell0 hJ1
  show P (11, [(0, .ref (A 0))], [.int v], 0, 0, h1)
  have m0' : ((0 : Nat), Value.ref (A 0)) ∈ g_st1 1 (.int v) ([(0, .ref (A 0))] : g_L) := iv_st2c m0 (by decide) rfl
  refine ir_st hcl (iv_dec (c2 _ (iv_in (c := []) (pc := 11) rfl)) (by decide) (by decide)) rfl rfl (by decide) ?_
  refine ir_ld hcl (iv_dec (c2 _ (iv_in (c := []) (pc := 12) rfl)) (by decide) (by decide)) rfl List.mem_cons_self rfl ?_
  refine ir_if hcl (iv_dec (c2 _ (iv_in (c := []) (pc := 13) rfl)) (by decide) (by decide)) 34 rfl rfl ?_
  by_cases c0 : v.toInt < 0
  · rw [if_pos (by rw [iv_c1lt]; exact decide_eq_true c0)]
    exact fin b h1 _ v M1 hJ1 hM1 ⟨_, _, _, y2, Or.inr ⟨c0, rfl⟩, by omega, n4⟩ m0' List.mem_cons_self
  · rw [if_neg (by rw [iv_c1lt, decide_eq_true_eq]; exact c0)]
    have m0'' : ((0 : Nat), Value.ref (A 0)) ∈ g_st1 2 (.ref (A (iv_S b 10))) (g_st1 1 (.int v) ([(0, .ref (A 0))] : g_L)) := iv_st2c m0' (by decide) rfl
    have m1'' : ((1 : Nat), Value.int v) ∈ g_st1 2 (.ref (A (iv_S b 10))) (g_st1 1 (.int v) ([(0, .ref (A 0))] : g_L)) := iv_st2c List.mem_cons_self (by decide) rfl
    refine ir_ld hcl (iv_dec (c2 _ (iv_in (c := []) (pc := 16) rfl)) (by decide) (by decide)) rfl m0' rfl ?_
    refine iv_getfield hcl (c2 _ (iv_in (c := []) (pc := 17) rfl)) (Or.inl rfl) (q := 0) (n := 12) (f := f1) x0 (by decide) ?_
    rw [x10]
    refine ir_st hcl (iv_dec (c2 _ (iv_in (c := []) (pc := 20) rfl)) (by decide) (by decide)) rfl rfl (by decide) ?_
    refine ir_ld hcl (iv_dec (c2 _ (iv_in (c := []) (pc := 21) rfl)) (by decide) (by decide)) rfl m0'' rfl ?_
    refine ir_ld hcl (iv_dec (c2 _ (iv_in (c := []) (pc := 22) rfl)) (by decide) (by decide)) rfl m0'' rfl ?_
    refine iv_getfield hcl (c2 _ (iv_in (c := []) (pc := 23) rfl)) (Or.inl rfl) (q := 0) (n := 12) (f := f1) x0 (by decide) ?_
    rw [x11]
    refine iv_putfield hcl (c2 _ (iv_in (c := []) (pc := 26) rfl)) (Or.inl rfl) (q := 0) (n := 12) (f := f1) x0 (by decide) (Or.inl (by decide +kernel)) (ty := .object "GreenGears$Book") (by decide +kernel) rfl rfl ?_
    have y0 : (h1.set 0 (A 0, false, 11, 12, g_up f1 10 (.ref (A (iv_S b 11)))))[0]? = some (A 0, false, 11, 12, g_up f1 10 (.ref (A (iv_S b 11)))) := iv_get_self x0
    refine ir_ld hcl (iv_dec (c2 _ (iv_in (c := []) (pc := 29) rfl)) (by decide) (by decide)) rfl m0'' rfl ?_
    refine ir_ld hcl (iv_dec (c2 _ (iv_in (c := []) (pc := 30) rfl)) (by decide) (by decide)) rfl List.mem_cons_self rfl ?_
    refine iv_putfield hcl (c2 _ (iv_in (c := []) (pc := 31) rfl)) (Or.inl rfl) (q := 0) (n := 12) (f := g_up f1 10 (.ref (A (iv_S b 11)))) y0 (by decide) (Or.inl (by decide +kernel)) (ty := .object "GreenGears$Book") (by decide +kernel) rfl rfl ?_
    rw [List.set_set]
    obtain ⟨hQs, hMs⟩ := iv_Qs hJ1 hM1 x0
    exact fin (!b) _ _ v M1 hQs hMs ⟨_, _, _, y2, Or.inl ⟨by omega, rfl, y3 (by omega), fun i _ _ => ⟨rfl, rfl, rfl⟩⟩, by omega, n4⟩ m0'' m1''
theorem iv_p114 (A : Nat → Nat) (cmp : Bool) : iv_pair (iv_J A) A 114 252 [] cmp false := by
  intro h as hI hs
  obtain rfl := iv_sp0 hs
  obtain ⟨W, b, hJ⟩ := hI
  obtain ⟨M, hM, hInv⟩ := hJ.1.2.2
  have hR := iv_xj hJ hM
  obtain ⟨s1, s2, s3, s4⟩ := lm_Sx.mp hR.2
  have hMk := xa_H_Mok hM
  have b18 := xm_f18 hMk
  have b11 := xm_f11 hMk
  have hQ : iv_Q A W b h (iv_num h) := ⟨hJ.1, hJ.2.1, hJ.2.2.2, fun _ _ _ _ => rfl⟩
  refine ⟨0, 0, by decide, by decide, g_run_mono (iv_bookQ hQ hM (T := fun i => M 73 i % 256) s2 (by omega)) (fun r1 h1 hp => ?_)⟩
  obtain ⟨v, b1, N, rfl, hQ1, hM1, U, Y, X, l1, l2, l3, l4⟩ := hp
  refine ⟨v, rfl, iv_sh_ok (iv_iW_inv hQ1.1), g_run_mono (iv_mrun hM1 (vs := [(2, 60, 0, 0, 0)]) (xs := [.ref (A 60)]) ⟨rfl, trivial⟩ (ms_bookF (d := 57) (M := M) (T := fun i => M 73 i % 256) (fun i _ _ => rfl) hInv (post := fun o M2 => ∃ ans, o = some (0, 0, (-2147483648), 2147483647, ans) ∧ bk_R (fun i => M 73 i % 256) (M 60 18) ans (M2 88) (M2 89) (fun i => bk_n (M2 90 i)) ∧ M2 60 18 = 0 ∧ ((0 ≤ ans ∧ M2 60 11 = ans ∧ ∀ i, 0 ≤ i → i < ans → M2 70 i = M2 88 i ∧ M2 71 i = M2 89 i ∧ M2 72 i = M2 90 i) ∨ (ans < 0 ∧ M2 60 11 = M 60 11 ∧ ∀ i, M2 70 i = M 70 i ∧ M2 71 i = M 71 i ∧ M2 72 i = M 72 i)) ∧ xm_Inv M2 ∧ (∀ q j, ¬ xm_scr q j → ¬ (q = 60 ∧ (j = 18 ∨ j = 11)) → ¬ (70 ≤ q ∧ q ≤ 72) → M2 q j = M q j)) (fun ans M2 x1 x2 x3 x4 x5 => ⟨ans, rfl, x1, x2, x3, x4, x5⟩))) (fun r2 h2 hp2 => ?_)⟩
  obtain ⟨v2, M2, ⟨ans, rfl, k1, k2, k3, k4, k5⟩, hr2, hM2⟩ := hp2
  obtain ⟨z2, rfl, hz2⟩ := iv_gRi hr2
  rw [s1] at l1
  obtain ⟨ea, eb⟩ := bk_R_one l1 k1
  refine ⟨⟨z2, rfl, fun _ => Int32.toInt_inj.mp (by rw [hz2]; exact ea)⟩, W, b1, iv_Qm hQ1 hM1 hM2 k4 (fun x => k5 104 x (by unfold xm_scr; omega) (by omega) (by omega)) (fun x => k5 105 x (by unfold xm_scr; omega) (by omega) (by omega)) ?_⟩
  have r0 : lm_R0 (xj N M2) := lm_R0x hR.1 (fun q j hC hS hq => l4 q j hC hq (fun e => by have t := lm_nS hC hS; omega) (fun e => by have t := lm_nS hC hS; cases b <;> (simp only [Bool.not_true, Bool.not_false, bk_p, cond_true, cond_false] at e; omega))) (fun q j hC hS hq => k5 q j (by have t := lm_nS hC hS; unfold xm_scr; omega) (fun e => by have t := lm_nS hC hS; omega) (fun e => by have t := lm_nS hC hS; omega))
  refine ⟨r0, lm_Sx.mpr ⟨by omega, fun i i0 i1 => ?_, ?_⟩⟩
  · rw [l4 31 i (by unfold lm_C; omega) (by omega) (by omega) (by cases b <;> decide), k5 73 i (by unfold xm_scr; omega) (by omega) (by omega)]
    exact s2 i i0 i1
  · rcases l2 with ⟨p1, rfl, p3, p4⟩ | ⟨p1, rfl⟩
    · rcases k3 with ⟨q1, q2, q3⟩ | ⟨q1, -⟩
      · refine ⟨by omega, fun i i0 i1 i2 => ?_⟩
        rw [q2] at i2
        obtain ⟨f1, f2, f3⟩ := q3 i i0 i2
        obtain ⟨g1, g2, g3⟩ := p4 i i0 i1
        obtain ⟨u1, u2, u3⟩ := eb (by omega) i i0 (by omega)
        exact ⟨g1.trans (u1.trans f1.symm), g2.trans (u2.trans f2.symm), g3.trans (u3.trans (congrArg bk_n f3.symm))⟩
      · omega
    · rcases k3 with ⟨q1, -⟩ | ⟨q1, q2, q3⟩
      · omega
      · refine ⟨?_, fun i i0 i1 i2 => ?_⟩
        · rw [q2, ← s3]
          cases b1
          · exact l4 50 4 (by unfold lm_C; omega) (by omega) (by omega) (by decide)
          · exact l4 55 4 (by unfold lm_C; omega) (by omega) (by omega) (by decide)
        · rw [q2] at i2
          obtain ⟨f1, f2, f3⟩ := q3 i
          have g := s4 i i0 i1 i2
          rw [f1, f2, f3]
          cases b1
          · exact ⟨(l4 51 i (by unfold lm_C; omega) (by omega) (by omega) (by decide)).trans g.1, (l4 52 i (by unfold lm_C; omega) (by omega) (by omega) (by decide)).trans g.2.1, (l4 53 i (by unfold lm_C; omega) (by omega) (by omega) (by decide)).trans g.2.2⟩
          · exact ⟨(l4 56 i (by unfold lm_C; omega) (by omega) (by omega) (by decide)).trans g.1, (l4 57 i (by unfold lm_C; omega) (by omega) (by omega) (by decide)).trans g.2.1, (l4 58 i (by unfold lm_C; omega) (by omega) (by omega) (by decide)).trans g.2.2⟩
theorem cor_k {M M1 : xa_M} (h : xm_cor (xa_up (xa_up M 60 21 0) 60 18 0) M1) : M1 60 18 = 0 ∧ ∀ q j, lm_C q j → ¬ q < 60 → ¬ (q = 60 ∧ j = 18) → M1 q j = M q j := by
  refine ⟨(h 60 18 (by unfold xm_scr; omega)).trans xa_up_eq, fun q j hC hq hn => ?_⟩
  have e := h q j (by unfold lm_C at hC; unfold xm_scr; omega)
  rw [e, xa_up_ne hn, xa_up_ne (by unfold lm_C at hC; omega)]
theorem cor_kk {M M1 : xa_M} (h : xm_cor (xa_up (xa_up M 60 21 0) 60 18 0) M1) {q : Nat} (hq : 96 ≤ q) (x : Int) : M1 q x = M q x := by
  rw [h q x (by unfold xm_scr; omega), xa_up_ne (by omega), xa_up_ne (by omega)]
theorem cor_Inv {M M1 : xa_M} (hI : xm_Inv M) (h : xm_cor (xa_up (xa_up M 60 21 0) 60 18 0) M1) : xm_Inv M1 := xm_Inv_cor h (xm_Inv_is (xm_is_u rfl (xm_is_u rfl xm_is_r)) hI)
theorem iv_p170 (A : Nat → Nat) (cmp : Bool) : iv_pair (iv_J A) A 170 279 [0] cmp false := iv_armV (fun W b h as M hJ hM hInv hs hR => by
  obtain ⟨m1, ys, rfl, -, hs⟩ := iv_spc hs
  obtain rfl := iv_sp0 hs
  obtain ⟨s1, s2, s3, s4⟩ := lm_Sx.mp hR.2
  have hMk := xa_H_Mok hM
  have b18 := xm_f18 hMk
  have b11 := xm_f11 hMk
  have hU : ∀ i, 0 ≤ i → i < iv_num h (bk_p b) 4 → (0 ≤ iv_num h (bk_p b + 1) i ∧ iv_num h (bk_p b + 1) i ≤ 2000) ∧ (0 ≤ iv_num h (bk_p b + 2) i ∧ iv_num h (bk_p b + 2) i ≤ 2000) := fun i i0 i1 => by
    rw [s3] at i1
    obtain ⟨g1, g2, -⟩ := s4 i i0 (by omega) i1
    rw [g1, g2]
    exact ⟨xm_t70 hMk i i0 (by omega), xm_t71 hMk i i0 (by omega)⟩
  have hc := cw_170 (b := b) (A := A) (h0 := h) (d := 54) (M := iv_num h) (T := fun i => M 73 i % 256) (l1 := -2147483648) (u1 := 2147483647) (x1 := m1.toInt) (post := fun o M1 => ∃ lo hi n, o = some (0, 0, lo, hi, n) ∧ wd_W m1.toInt (wd_A (fun i => M 73 i % 256) (iv_num h 30 1) (wd_P (fun i => M 73 i % 256) (iv_num h 30 1) m1.toInt (iv_num h (bk_p b + 2)) (iv_num h (bk_p b + 1))) (iv_num h (bk_p b) 4).toNat n) n ∧ M1 30 1 = 0 ∧ ∀ q j, ¬ q = 48 → ¬ q = 49 → ¬ (q = 30 ∧ j = 1) → ¬ (q = 60 ∧ j = 21) → M1 q j = iv_num h q j) s2 (fun i => by show 0 ≤ M 73 i % 256 ∧ M 73 i % 256 ≤ 255; omega) (by omega) (by omega) hU (fun n M1 x1 x2 x3 => ⟨_, _, n, rfl, x1, x2, x3⟩)
  have hm := fun (h1 : g_H) => ms_wordF (A := A) (h0 := h1) (d := 58) (M := M) (T := fun i => M 73 i % 256) (l1 := -2147483648) (u1 := 2147483647) (x1 := m1.toInt) (post := fun o M2 => (∃ lo hi n, o = some (0, 0, lo, hi, n) ∧ wd_W m1.toInt (wd_A (fun i => M 73 i % 256) (M 60 18) (wd_P (fun i => M 73 i % 256) (M 60 18) m1.toInt (M 71) (M 70)) (M 60 11).toNat n) n ∧ xm_cor (xa_up (xa_up M 60 21 0) 60 18 0) M2) ∧ xm_Inv M2) (fun i _ _ => rfl) (fun n M2 x1 x2 => ⟨⟨_, _, n, rfl, x1, x2⟩, cor_Inv hInv x2⟩)
  refine ⟨[(2, 0, 0, 0, 0), (0, 0, -2147483648, 2147483647, m1.toInt)], [(2, 60, 0, 0, 0), (0, 0, -2147483648, 2147483647, m1.toInt)], _, _, ⟨rfl, iv_i m1, trivial⟩, ⟨rfl, iv_i m1, trivial⟩, fun n n' M1 M2 h1 h2 => ?_, hc, hm⟩
  obtain ⟨a1, a2, a3⟩ := h1
  obtain ⟨c1, c2⟩ := h2
  obtain ⟨d1, d2⟩ := cor_k c2
  refine ⟨fun _ => ?_, fun x => cor_kk c2 (by omega) x, fun x => cor_kk c2 (by omega) x, lm_Rt hR (by omega) (fun i i0 i1 => ?_) (fun q j hC hq e1 e2 => a3 q j (by unfold lm_C at hC; omega) (by unfold lm_C at hC; omega) e1 (by omega)) (fun q j hC hq e1 e2 => d2 q j hC hq e1)⟩
  · rcases a1 with ⟨a4, a5⟩ | ⟨a4, a5⟩
    · rcases c1 with ⟨c4, c5⟩ | ⟨c4, c5⟩
      · omega
      · omega
    · rcases c1 with ⟨c4, c5⟩ | ⟨c4, c5⟩
      · omega
      · rw [s1, s3] at a5
        refine wd_A_one (fun p hp => ?_) a5 c5
        obtain ⟨g1, g2, -⟩ := s4 p (by omega) (by omega) (by omega)
        unfold wd_P
        rw [g1, g2]
  · rw [a3 31 i (by omega) (by omega) (by omega) (by omega), d2 73 i (by unfold lm_C; omega) (by omega) (by omega)]
    exact s2 i i0 i1)
set_option maxRecDepth 100000 in
theorem y_sr_175 : (y_Kr 59 175 [(2, 11, 0, 0, 0, 0, 0), (2, 5, 0, 0, 0, 0, 0), (2, 10, 0, 0, 0, 0, 0)] []).isSome = true := by decide +kernel
theorem iv_namesX {A : Nat → Nat} {W : y_W} {b : Bool} {h : g_H} (hJ : iv_JW A W b h) : g_run 60 174 [.ref (A 0)] h 0 0 (fun r h1 => ∃ (v : Int32) (W1 : y_W) (N X M : xa_M), r = some (.int v) ∧ iv_Q A W1 b h1 N ∧ xa_H xm_I A M h1 h1 ∧ xm_Inv M ∧ lm_R b (xj X M) ∧ N 30 1 = 0 ∧ ∀ q j, lm_C q j → q < 60 → ¬ (q = 30 ∧ j = 1) → N q j = X q j) := by
  have cell0 : ∀ {W : y_W} {b : Bool} {h : g_H}, iv_JW A W b h → ∃ f0, h[0]? = some (A 0, false, 11, 12, f0) ∧ f0 4 = .ref (A 30) ∧ f0 9 = .ref (A 48) ∧ f0 10 = .ref (A (iv_S b 10)) ∧ (∃ f, h[30]? = some (A 30, false, 8, 2, f)) ∧ ∃ f, h[iv_S b 10]? = some (A (iv_S b 10), false, 0, 8, f) := by
    intro W b h hJ
    obtain ⟨f0, g0⟩ := iv_cell hJ.1 (q := 0) rfl rfl
    have e4 := hJ.2.1 0 _ _ rfl 4 (show 4 < 12 by decide) rfl
    have e9 := hJ.2.1 0 _ _ rfl 9 (show 9 < 12 by decide) rfl
    have e10 := hJ.2.1 0 _ _ rfl 10 (show 10 < 12 by decide) rfl
    rw [iv_ctZ g0] at e4 e9 e10
    exact ⟨f0, g0, e4, e9, by rw [e10]; cases b <;> rfl, iv_cell hJ.1 (q := 30) rfl rfl, iv_cell hJ.1 (iv_S_rl b 10) rfl⟩
  obtain ⟨q1, q2, q3, q4, q5⟩ := s_mi_ok 174 (2, 1, false, 0, 0, 11) (by decide +kernel)
  obtain ⟨c1, c2⟩ := s_codes_ok 174 (2, 1, false, 0, 0, 11) (by decide +kernel)
  rw [show s_codes.getD 174 [] = s_c_174 from rfl] at c1 c2
  have q3 : g_rt 174 = some .int := q3
  refine ⟨q1, by rw [q2]; exact (show 1 ≤ 2 by decide), ?_⟩
  rw [q5, q2, q4]
  intro P hend hcl
  show P (0, [(0, .ref (A 0))], [], 0, 0, h)
  have h175 : (g_me 175).2.1 = 0 := (s_mi_ok 175 _ (show s_mi[175]? = some (4, 1, false, 0, 0, 0) by decide +kernel)).2.2.2.2
  have h113 : (g_me 113).2.1 = 8 := (s_mi_ok 113 _ (show s_mi[113]? = some (2, 2, false, 0, 0, 8) by decide +kernel)).2.2.2.2
  have t175 : g_rt 175 = some .int := (s_mi_ok 175 _ (show s_mi[175]? = some (4, 1, false, 0, 0, 0) by decide +kernel)).2.2.1
  have t113 : g_rt 113 = some .boolean := (s_mi_ok 113 _ (show s_mi[113]? = some (2, 2, false, 0, 0, 8) by decide +kernel)).2.2.1
  have m0 : ((0 : Nat), Value.ref (A 0)) ∈ ([(0, .ref (A 0))] : g_L) := List.mem_cons_self
  obtain ⟨f0, g0, e4, e9, e10, ⟨f30, g30⟩, fs, gs⟩ := cell0 hJ
  refine ir_ld hcl (iv_dec (c2 _ (iv_in (c := []) (pc := 0) rfl)) (by decide) (by decide)) rfl m0 rfl ?_
  refine iv_getfield hcl (c2 _ (iv_in (c := []) (pc := 1) rfl)) (Or.inl rfl) (q := 0) (n := 12) (f := f0) g0 (by decide) ?_
  rw [e10]
  refine ir_ld hcl (iv_dec (c2 _ (iv_in (c := []) (pc := 4) rfl)) (by decide) (by decide)) rfl m0 rfl ?_
  refine iv_getfield hcl (c2 _ (iv_in (c := []) (pc := 5) rfl)) (Or.inl rfl) (q := 0) (n := 12) (f := f0) g0 (by decide) ?_
  rw [e4]
  refine ir_ld hcl (iv_dec (c2 _ (iv_in (c := []) (pc := 8) rfl)) (by decide) (by decide)) rfl m0 rfl ?_
  refine iv_getfield hcl (c2 _ (iv_in (c := []) (pc := 9) rfl)) (Or.inl rfl) (q := 0) (n := 12) (f := f0) g0 (by decide) ?_
  rw [e9]
  refine iv_virt (as := [.ref (A 30), .ref (A 48)]) (rest := []) hcl (c2 _ (iv_in (c := []) (pc := 12) rfl)) (q := iv_S b 10) (by rw [h175]; exact gs) rfl (by decide) (mc := 0) (ms := 0) (by decide) (by decide) (g_run_rt (f_run iv_T_ok _ _ _ _ _ _ _ (fun _ h' => ∃ W', iv_JW A W' b h') (by decide +kernel) (iv_callR y_Rr_ro (y_Kr_ok 59) y_sr_175 hJ.1 (fun β => ⟨⟨iv_S b 10, A (iv_S b 10), rfl, hJ.1.2.1 _ _ (iv_S_rl b 10)⟩, ⟨30, A 30, rfl, hJ.1.2.1 30 5 rfl⟩, ⟨48, A 48, rfl, hJ.1.2.1 48 10 rfl⟩, trivial⟩)) (fun r h' hp hF => by obtain ⟨W', -, hJ'⟩ := iv_J_c hJ hp hF; exact ⟨W', hJ'⟩)) (fun r h1 hJ1 hrt => ?_))
  rw [t175] at hrt
  obtain ⟨v, rfl⟩ := hrt
  obtain ⟨W1, hJ1⟩ := hJ1
  obtain ⟨f1, x0, x4, -, -, ⟨y30, z30⟩, -⟩ := cell0 hJ1
  obtain ⟨M, hM, hInv⟩ := hJ1.1.2.2
  have hR := iv_xj hJ1 hM
  obtain ⟨s1, -⟩ := lm_Sx.mp hR.2
  have b18 := xm_f18 (xa_H_Mok hM)
  have hQ : iv_Q A W1 b h1 (iv_num h1) := ⟨hJ1.1, hJ1.2.1, hJ1.2.2.2, fun _ _ _ _ => rfl⟩
  show P (15, [(0, .ref (A 0))], [.int v], 0, 0, h1)
  have m0' : ((0 : Nat), Value.ref (A 0)) ∈ g_st1 1 (.int v) ([(0, .ref (A 0))] : g_L) := iv_st2c m0 (by decide) rfl
  refine ir_st hcl (iv_dec (c2 _ (iv_in (c := []) (pc := 15) rfl)) (by decide) (by decide)) rfl rfl (by decide) ?_
  refine ir_ld hcl (iv_dec (c2 _ (iv_in (c := []) (pc := 16) rfl)) (by decide) (by decide)) rfl m0' rfl ?_
  refine iv_getfield hcl (c2 _ (iv_in (c := []) (pc := 17) rfl)) (Or.inl rfl) (q := 0) (n := 12) (f := f1) x0 (by decide) ?_
  rw [x4]
  refine ir_co hcl (iv_dec (c2 _ (iv_in (c := []) (pc := 20) rfl)) (by decide) (by decide)) rfl ?_
  refine iv_virt (as := [.int 0]) (rest := []) hcl (c2 _ (iv_in (c := []) (pc := 21) rfl)) (q := 30) (by rw [h113]; exact z30) rfl (by decide) (mc := 0) (ms := 0) (by decide) (by decide) (g_run_rt (iv_Qc (d := 59) hQ hM (vs := [(2, 30, 0, 0, 0), (0, 0, 0, 0, 0)]) (xs := [.ref (A 30), .int 0]) ⟨rfl, ⟨_, rfl, rfl, by decide, by decide⟩, trivial⟩ (cx_113f (d := 58) (M := iv_num h1) (x1 := 0) (post := fun o M2 => ∃ n, o = some (0, 0, 0, 1, n) ∧ lt_E (iv_num h1) 30 1 (iv_num h1 30 1) 0 n M2) (fun n M1 hP => ⟨n, rfl, hP⟩))) (fun r h2 hp hrt => ?_))
  rw [t113] at hrt
  obtain ⟨z, rfl, -⟩ := hrt
  obtain ⟨v2, N2, ⟨n2, -, hE⟩, -, hQ2, hM2, -⟩ := hp
  have hE1 : N2 30 1 = 0 ∧ ∀ q j, lm_C q j → q < 60 → ¬ (q = 30 ∧ j = 1) → N2 q j = iv_num h1 q j := by
    rcases hE with ⟨-, -, e3, e4⟩ | ⟨e1, -⟩
    · exact ⟨e3, fun q j hC hq hn => e4 q j hn (by omega)⟩
    · exact absurd ⟨Int.le_refl 0, by omega⟩ e1
  show P (24, g_st1 1 (.int v) ([(0, .ref (A 0))] : g_L), [.int z], 0, 0, h2)
  refine ir_pop hcl (iv_dec (c2 _ (iv_in (c := []) (pc := 24) rfl)) (by decide) (by decide)) rfl rfl ?_
  refine ir_ld hcl (iv_dec (c2 _ (iv_in (c := []) (pc := 25) rfl)) (by decide) (by decide)) rfl List.mem_cons_self rfl ?_
  exact hend _ ⟨Nat.le_refl _, Nat.le_refl _, Or.inl ⟨v, .int, iv_ireturn (c2 _ (iv_in (c := []) (pc := 26) rfl)), q3, rfl, rfl, v, W1, N2, iv_num h1, M, rfl, hQ2, hM2, hInv, hR, hE1.1, hE1.2⟩⟩
theorem iv_p174 (A : Nat → Nat) (cmp : Bool) : iv_pair (iv_J A) A 174 281 [] (cmp && false) false := by
  rw [Bool.and_false]
  intro h as hI hs
  obtain rfl := iv_sp0 hs
  obtain ⟨W, b, hJ⟩ := hI
  refine ⟨0, 0, by decide, by decide, g_run_mono (iv_namesX hJ) (fun r1 h1 hp => ?_)⟩
  obtain ⟨v, W1, N, X, M, rfl, hQ1, hM1, hInv, hR, n1, n2⟩ := hp
  refine ⟨v, rfl, iv_sh_ok (iv_iW_inv hQ1.1), g_run_mono (iv_mrun hM1 (vs := [(2, 60, 0, 0, 0)]) (xs := [.ref (A 60)]) ⟨rfl, trivial⟩ (ms_namesE (d := 49) (M := M) (post := fun o M2 => (∃ lo hi r, o = some (0, 0, lo, hi, r)) ∧ xm_cor (xa_up (xa_up M 60 21 0) 60 18 0) M2) (fun lo hi r M2 x1 => ⟨⟨lo, hi, r, rfl⟩, x1⟩))) (fun r2 h2 hp2 => ?_)⟩
  obtain ⟨v2, M2, ⟨⟨lo, hi, r, rfl⟩, c2⟩, hr2, hM2⟩ := hp2
  obtain ⟨z2, rfl, hz2⟩ := iv_gRi hr2
  obtain ⟨d1, d2⟩ := cor_k c2
  obtain ⟨-, s2, -⟩ := lm_Sx.mp hR.2
  refine ⟨⟨z2, rfl, fun h => by cases h⟩, W1, b, iv_Qm hQ1 hM1 hM2 (cor_Inv hInv c2) (fun x => cor_kk c2 (by omega) x) (fun x => cor_kk c2 (by omega) x) (lm_Rt hR (by omega) (fun i i0 i1 => ?_) (fun q j hC hq e1 e2 => n2 q j hC hq e1) (fun q j hC hq e1 e2 => d2 q j hC hq e1))⟩
  rw [n2 31 i (by unfold lm_C; omega) (by omega) (by omega), d2 73 i (by unfold lm_C; omega) (by omega) (by omega)]
  exact s2 i i0 i1
