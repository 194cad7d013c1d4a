-- joined: 65.xm5, 66.xm6, 67.xm7, 68.xm8
section
-- two runs of findTurns over the same lasting cells leave the same turns; together (made by wip/p24/xa/xm5.py)
set_option maxRecDepth 20000
def xm_ag (M M' : xa_M) : Prop := xm_cor M M' ∧ ∀ b, 0 ≤ b → b < 10 → (M 77 b = 0 ∨ M 77 b = 1) ∧ M' 77 b = M 77 b ∧ (M 77 b = 1 → M' 75 b = M 75 b ∧ M' 76 b = M 76 b)
def xm_rng (M : xa_M) : Prop := ∀ m, 0 ≤ m → m < M 60 6 → (0 ≤ M 64 (M 66 m) ∧ M 64 (M 66 m) ≤ 9) ∧ (0 ≤ M 64 (M 67 m) ∧ M 64 (M 67 m) ≤ 9)
theorem xm_rng_c {M M' : xa_M} (h : xm_cor M M') (hr : xm_rng M) : xm_rng M' := by
  intro m h0 h1
  rw [xm_corf h 6 (by omega)] at h1
  rw [xm_corq h 66 rfl, xm_corq h 67 rfl, xm_corq h 64 rfl, xm_corq h 64 rfl]
  exact hr m h0 h1
theorem xm_ag_led {M M' : xa_M} (h : xm_ag M M') {a b c : Int} (h0 : 0 ≤ a) (h1 : a ≤ 9) (ha : M 77 a = 1) : xm_ldU M' a b c = xm_ldU M a b c ∧ xm_ldL M' a b c = xm_ldL M a b c := by
  obtain ⟨e1, e2⟩ := (h.2 a h0 (by omega)).2.2 ha
  unfold xm_ldU xm_ldL
  rw [e1, e2, xm_corq h.1 63 rfl, xm_corq h.1 63 rfl]
  exact ⟨rfl, rfl⟩
/-- both go wrong, or both go on alike -/
def xm_rl (o o' : Option (Int × xa_M)) : Prop := match o, o' with
  | none, none => True
  | some p, some p' => p'.1 = p.1 ∧ xm_ag p.2 p'.2 ∧ xm_cor p.2 p.2
  | _, _ => False
theorem xm_ag_sto {M M' : xa_M} (h : xm_ag M M') {t u l : Int} : xm_ag (xm_sto M t u l) (xm_sto M' t u l) := by
  refine ⟨fun q j hn => ?_, fun b b0 b1 => ?_⟩
  · unfold xm_sto xa_up
    have := h.1 q j hn
    simp only [this]
  · have hb := h.2 b b0 b1
    by_cases e : b = t
    · subst e
      simp [xm_sto, xa_up]
    · simp [xm_sto, xa_up, e]
      exact hb
theorem xm_put_rl {M M' : xa_M} (h : xm_ag M M') {z a b c t : Int} (h0 : 0 ≤ a) (h1 : a ≤ 9) (ha : M 77 a = 1) : xm_rl (xm_put z M a b c t) (xm_put z M' a b c t) := by
  obtain ⟨e1, e2⟩ := xm_ag_led h (b := b) (c := c) h0 h1 ha
  unfold xm_put
  rw [e1, e2]
  split
  · trivial
  · exact ⟨rfl, xm_ag_sto h, xm_cor_r⟩
theorem xm_stC_rl {M M' : xa_M} (h : xm_ag M M') (hr : xm_rng M) {but m z : Int} (h0 : 0 ≤ m) (h1 : m < M 60 6) : xm_rl (xm_stC but m z M) (xm_stC but m z M') := by
  obtain ⟨r1, r2⟩ := hr m h0 h1
  have g1 := h.2 _ r1.1 (by omega)
  have g2 := h.2 _ r2.1 (by omega)
  unfold xm_stC
  rw [xm_corq h.1 66 rfl, xm_corq h.1 67 rfl, xm_corq h.1 64 rfl, xm_corq h.1 64 rfl, g1.2.1, g2.2.1]
  split
  · exact ⟨rfl, h, xm_cor_r⟩
  · split
    · exact xm_put_rl h r2.1 r2.2 (by omega)
    · exact xm_put_rl h r1.1 r1.2 (by omega)
theorem xm_stC_cor {M : xa_M} {but m z : Int} {p : Int × xa_M} (h : xm_stC but m z M = some p) : xm_cor M p.2 := by
  have key : ∀ {a b c t : Int}, xm_put z M a b c t = some p → xm_cor M p.2 := by
    intro a b c t h
    unfold xm_put at h
    split at h
    · cases h
    · cases h
      exact xm_cor_a rfl (xm_cor_a rfl (xm_cor_a rfl (xm_cor_f (by omega) (xm_cor_f (by omega) xm_cor_r))))
  unfold xm_stC at h
  split at h
  · cases h
    exact xm_cor_r
  · split at h
    · exact key h
    · exact key h
theorem xm_fC_rl {but : Int} : ∀ (n : Nat) (m z : Int) (M M' : xa_M), xm_ag M M' → xm_rng M → 0 ≤ m → xm_rl (xm_fC but n m z M) (xm_fC but n m z M')
  | 0, _, _, _, _, h, _, _ => ⟨rfl, h, xm_cor_r⟩
  | n + 1, m, z, M, M', h, hr, h0 => by
    rw [xm_fC, xm_fC, xm_corf h.1 6 (by omega)]
    split
    next h1 =>
      have k := xm_stC_rl (but := but) (z := z) h hr h0 h1
      cases e1 : xm_stC but m z M with
      | none =>
        cases e2 : xm_stC but m z M' with
        | none => trivial
        | some p' => rw [e1, e2] at k; exact k.elim
      | some p =>
        cases e2 : xm_stC but m z M' with
        | none => rw [e1, e2] at k; exact k.elim
        | some p' =>
          rw [e1, e2] at k
          obtain ⟨k1, k2, -⟩ := k
          show xm_rl (xm_fC but n (m + 1) p.1 p.2) (xm_fC but n (m + 1) p'.1 p'.2)
          rw [k1]
          exact xm_fC_rl n (m + 1) p.1 p.2 p'.2 k2 (xm_rng_c (xm_stC_cor e1) hr) (by omega)
    next => exact ⟨rfl, h, xm_cor_r⟩
theorem xm_fC_cor {but : Int} : ∀ (n : Nat) (m z : Int) (M : xa_M) (p : Int × xa_M), xm_fC but n m z M = some p → xm_cor M p.2
  | 0, _, _, _, _, h => by cases h; exact xm_cor_r
  | n + 1, m, z, M, p, h => by
    rw [xm_fC] at h
    split at h
    · split at h
      next => cases h
      next p1 e1 => exact xm_cor_t (xm_stC_cor e1) (xm_fC_cor n _ _ _ _ h)
    · cases h
      exact xm_cor_r
def xm_rl1 (o o' : Option xa_M) : Prop := match o, o' with
  | none, none => True
  | some M, some M' => xm_ag M M' ∧ xm_rng M
  | _, _ => False
theorem xm_fB_rl {but : Int} : ∀ (n : Nat) (z : Int) (M M' : xa_M), xm_ag M M' → xm_rng M → xm_rl1 (xm_fB but n z M) (xm_fB but n z M')
  | 0, _, _, _, h, hr => ⟨h, hr⟩
  | n + 1, z, M, M', h, hr => by
    rw [xm_fB, xm_fB]
    split
    · exact ⟨h, hr⟩
    · have k := xm_fC_rl (but := but) 17 0 0 M M' h hr (by omega)
      cases e1 : xm_fC but 17 0 0 M with
      | none =>
        cases e2 : xm_fC but 17 0 0 M' with
        | none => trivial
        | some p' => rw [e1, e2] at k; exact k.elim
      | some p =>
        cases e2 : xm_fC but 17 0 0 M' with
        | none => rw [e1, e2] at k; exact k.elim
        | some p' =>
          rw [e1, e2] at k
          obtain ⟨k1, k2, -⟩ := k
          show xm_rl1 (xm_fB but n p.1 p.2) (xm_fB but n p'.1 p'.2)
          rw [k1]
          exact xm_fB_rl n p.1 p.2 p'.2 k2 (xm_rng_c (xm_fC_cor _ _ _ _ _ e1) hr)
theorem xm_fD_rl {but : Int} : ∀ (n : Nat) (m z : Int) (M M' : xa_M), xm_ag M M' → xm_rng M → 0 ≤ m → (xm_fD but n m z M').1 = (xm_fD but n m z M).1 ∧ xm_ag (xm_fD but n m z M).2 (xm_fD but n m z M').2
  | 0, _, _, _, _, h, _, _ => ⟨rfl, h⟩
  | n + 1, m, z, M, M', h, hr, h0 => by
    rw [xm_fD, xm_fD, xm_corf h.1 6 (by omega)]
    by_cases h1 : m < M 60 6
    · rw [if_pos h1, if_pos h1]
      obtain ⟨r1, r2⟩ := hr m h0 h1
      have g1 := h.2 _ r1.1 (by omega)
      have g2 := h.2 _ r2.1 (by omega)
      rw [xm_corq h.1 66 rfl, xm_corq h.1 67 rfl, xm_corq h.1 64 rfl, xm_corq h.1 64 rfl, g1.2.1, g2.2.1]
      by_cases h2 : m = but ∨ M 77 (M 64 (M 66 m)) = 0 ∨ M 77 (M 64 (M 67 m)) = 0
      · rw [if_pos h2, if_pos h2]
        exact xm_fD_rl n (m + 1) z M M' h hr (by omega)
      · rw [if_neg h2, if_neg h2]
        obtain ⟨e1, e2⟩ := xm_ag_led h (b := M 66 m) (c := M 67 m) r1.1 r1.2 (by omega)
        obtain ⟨f1, f2⟩ := g2.2.2 (by omega)
        rw [e1, e2, f1, f2]
        refine xm_fD_rl n (m + 1) _ _ _ ⟨fun q j hn => ?_, fun b b0 b1 => ?_⟩ (xm_rng_c (xm_cor_f (by omega) (xm_cor_f (by omega) xm_cor_r)) hr) (by omega)
        · have := h.1 q j hn
          simp only [xa_up, this]
        · have := h.2 b b0 b1
          simp [xa_up]
          exact this
    · rw [if_neg h1, if_neg h1]
      exact ⟨rfl, h⟩
theorem xm_i77_q : ∀ (n : Nat) (b : Int) (M : xa_M) (q : Nat) (j : Int), ¬ q = 77 → xm_i77 n b M q j = M q j
  | 0, _, _, _, _, _ => rfl
  | n + 1, b, M, q, j, h => by
    rw [xm_i77]
    split
    · rw [xm_i77_q n _ _ q j h, xa_up_ne (fun e => h e.1)]
    · rfl
theorem xm_i77_j : ∀ (n : Nat) (b : Int) (M : xa_M) (j : Int), b ≤ j → j < 10 → j - b < n → xm_i77 n b M 77 j = if j = 0 then 1 else 0
  | 0, _, _, _, h, _, h3 => by omega
  | n + 1, b, M, j, h, h2, h3 => by
    rw [xm_i77, if_pos (by omega)]
    by_cases e : j = b
    · subst e
      have key : ∀ (n : Nat) (b : Int) (M : xa_M), j < b → xm_i77 n b M 77 j = M 77 j := by
        intro n
        induction n with
        | zero => intro b M _; rfl
        | succ n ih =>
          intro b M hb
          rw [xm_i77]
          split
          · rw [ih _ _ (by omega), xa_up_ne (by omega)]
          · rfl
      rw [key _ _ _ (by omega), xa_up_eq]
    · exact xm_i77_j n (b + 1) _ j (by omega) h2 (by omega)
theorem xm_ini_ag {M M' : xa_M} (h : xm_cor M M') : xm_ag (xm_ini M) (xm_ini M') := by
  refine ⟨fun q j hn => ?_, fun b b0 b1 => ?_⟩
  · have e : ∀ N : xa_M, xm_ini N q j = N q j := fun N => by
      unfold xm_ini
      rw [xa_up_ne (fun e => hn (Or.inl (by omega))), xa_up_ne (fun e => hn (Or.inl (by omega))), xm_i77_q _ _ _ _ _ (fun e => hn (Or.inl (by omega)))]
    rw [e, e]
    exact h q j hn
  · have e7 : ∀ N : xa_M, xm_ini N 77 b = if b = 0 then 1 else 0 := fun N => by
      unfold xm_ini
      rw [xa_up_ne (by omega), xa_up_ne (by omega), xm_i77_j 11 0 N b b0 b1 (by omega)]
    rw [e7, e7]
    by_cases e : b = 0
    · subst e
      simp [xm_ini, xa_up]
    · simp [e]
theorem xm_FT_det {M M' N N' : xa_M} {but v v' : Int} (h : xm_cor M M') (hr : xm_rng M) (h1 : xm_FT but M v N) (h2 : xm_FT but M' v' N') : v' = v ∧ (¬ v = -5 → xm_ag N N') := by
  have hi : xm_rng (xm_ini M) := by
    refine xm_rng_c (M := M) (fun q j hn => ?_) hr
    unfold xm_ini
    rw [xa_up_ne (fun e => hn (Or.inl (by omega))), xa_up_ne (fun e => hn (Or.inl (by omega))), xm_i77_q _ _ _ _ _ (fun e => hn (Or.inl (by omega)))]
  have k := xm_fB_rl (but := but) 23 1 _ _ (xm_ini_ag h) hi
  unfold xm_FT at h1 h2
  cases e1 : xm_fB but 23 1 (xm_ini M) with
  | none =>
    rw [e1] at h1 k
    cases e2 : xm_fB but 23 1 (xm_ini M') with
    | none =>
      rw [e2] at h2
      have a1 : v = -5 := h1
      have a2 : v' = -5 := h2
      exact ⟨by omega, fun h => absurd a1 h⟩
    | some p' => rw [e2] at k; exact k.elim
  | some N1 =>
    rw [e1] at h1 k
    cases e2 : xm_fB but 23 1 (xm_ini M') with
    | none => rw [e2] at k; exact k.elim
    | some N2 =>
      rw [e2] at h2 k
      obtain ⟨k1, k2⟩ := xm_fD_rl (but := but) 17 0 0 N1 N2 k.1 k.2 (by omega)
      obtain ⟨a1, a2⟩ := h1
      obtain ⟨b1, b2⟩ := h2
      rw [k1] at b1
      rw [a2, b2]
      exact ⟨b1.trans a1.symm, fun _ => k2⟩
theorem xm_rng_I {M : xa_M} (hM : xa_Mok xm_I M) (hI : xm_Inv M) : xm_rng M := fun m h0 h1 => by
  have := xm_msh hM hI h0 h1
  exact ⟨this.2.2.1, this.2.2.2.1⟩
theorem xm_mul9 {p q : Int} (h1 : -1000000000 ≤ p) (h2 : p ≤ 1000000000) (h3 : -1000000000 ≤ q) (h4 : q ≤ 1000000000) : -1000000000000000000 ≤ p * q ∧ p * q ≤ 1000000000000000000 := xa_mul_ok h1 h2 h3 h4
theorem ct_gcd2 {A : Nat → Nat} {h0 : g_H} {d : Nat} {M : xa_M} {post : Option xa_V → xa_M → Prop} {I : xa_I} {l1 u1 l2 u2 x y : Int} (hx : -9223372036854775808 < x) (hy1 : 1 ≤ y) (k : ∀ g : Int, g = (Int.gcd x y : Int) → 1 ≤ g → g ≤ y → post (some (1, 0, 1, 9223372036854775807, g)) M) : xa_C I A h0 (d + 2) 229 [(1, 0, l1, u1, x), (1, 0, l2, u2, y)] M post := by
  refine xa_C_arg [(1, 0, -9223372036854775807, 9223372036854775807, x), (1, 0, -9223372036854775807, 9223372036854775807, y)] (xa_svL (fun _ _ _ _ => by omega) (xa_svL (fun _ _ _ _ => by omega) xa_sv0)) ?_
  exact ct_gcd1 (by decide) (by decide) hy1 k
theorem ms_together {A : Nat → Nat} {h0 : g_H} {d : Nat} {M : xa_M} {post : Option xa_V → xa_M → Prop} {l1 u1 l2 u2 : Int} {a b : Int} (hI : xm_Inv M) (k : ∀ (o : Option xa_V) (M1 : xa_M), xm_cor M M1 → post o M1) : xa_C xm_I A h0 (d + 7) 274 [(2, 60, 0, 0, 0), (0, 0, l1, u1, a), (0, 0, l2, u2, b)] M post := by
  refine xa_C_arg [(2, 60, 0, 0, 0), (0, 0, (-2147483648), 2147483647, a), (0, 0, (-2147483648), 2147483647, b)] (xa_svR (xa_svI (fun _ _ _ _ => by omega) (xa_svI (fun _ _ _ _ => by omega) xa_sv0))) ?_
  refine xa_meth (Q0 := (10, 1, false, 0, 0, 12)) (by decide +kernel) ⟨rfl, rfl⟩ (full := s_c_274) rfl rfl ?_
  intro hM hv Q hgo
  refine hgo.1 89 [] 0 _ _ _ ?_
  show xa_C xm_I A h0 _ 215 [(0, 0, (-2147483648), 2147483647, a)] (xa_up M 60 21 0) _
  refine ct_isAxle ?_ ?_
  · intro (i1 : 0 ≤ a ∧ a ≤ 9)
    show xa_C xm_I A h0 _ 215 [(0, 0, (-2147483648), 2147483647, b)] (xa_up M 60 21 0) _
    refine ct_isAxle ?_ ?_
    · intro (i2 : 0 ≤ b ∧ b ≤ 9)
      show xa_C xm_I A h0 _ 227 [(2, 60, 0, 0, 0), (0, 0, (-1), (-1), (-1))] (xa_up M 60 21 0) _
      refine xa_C_mok (ct_findTurns (xm_Inv_cor (xm_cor_f (by omega) xm_cor_r) hI) (fun v3 M3 hv3 hc3 hT3 hF3 hM3 => ?_))
      refine And.intro ?_ ?_
      · intro (c4 : 0 ≤ v3)
        refine And.intro (show 0 ≤ a ∧ a < 10 by omega) ?_
        refine And.intro ?_ ?_
        · intro (c5 : (M3 77 a) = 0)
          show post (some (0, 0, (-2), (-2), (-2))) M3
          exact k _ _ (xm_cor_t (xm_cor_f (by omega) xm_cor_r) hc3)
        · intro (c5 : ¬ (M3 77 a) = 0)
          refine And.intro (show 0 ≤ b ∧ b < 10 by omega) ?_
          refine And.intro ?_ ?_
          · intro (c6 : ¬ (M3 77 b) = 0)
            show xa_C xm_I A h0 _ 273 [(2, 60, 0, 0, 0), (0, 0, (-2147483648), 2147483647, a)] M3 _
            refine xa_C_mok (ct_fairState (xm_Inv_cor (xm_cor_t (xm_cor_f (by omega) xm_cor_r) hc3) hI) (by omega) (by omega) (fun v7 w7 M7 hc7 hT7 hF7 hw7 hv7 hM7 => ?_))
            refine And.intro ?_ ?_
            · intro (c8 : v7 < 0)
              show post (some (0, 0, (-5), (-5), (-5))) M7
              exact k _ _ (xm_cor_t (xm_cor_t (xm_cor_f (by omega) xm_cor_r) hc3) hc7)
            · intro (c8 : 0 ≤ v7)
              show xa_C xm_I A h0 _ 273 [(2, 60, 0, 0, 0), (0, 0, (-2147483648), 2147483647, b)] M7 _
              refine xa_C_mok (ct_fairState (xm_Inv_cor (xm_cor_t (xm_cor_t (xm_cor_f (by omega) xm_cor_r) hc3) hc7) hI) (by omega) (by omega) (fun v9 w9 M9 hc9 hT9 hF9 hw9 hv9 hM9 => ?_))
              have dt := xm_FT_det hc7 (xm_rng_c (xm_cor_t (xm_cor_f (by omega) xm_cor_r) hc3) (xm_rng_I hM hI)) hF7 hF9
              have y3 : 0 ≤ v7 → 0 ≤ v9 → (M9 75 a = M7 75 a ∧ M9 76 a = M7 76 a) := fun z1 z2 => by
                have y1 := hv7 z1
                have y2 := hv9 z2
                have d3 := (dt.2 (by omega)).2 a (by omega) (by omega)
                exact d3.2.2 y1.2.1
              have w64 : 0 ≤ v7 → 0 ≤ v9 → (xa_w64 (M9 75 a * M9 76 b) = M9 75 a * M9 76 b ∧ xa_w64 (M9 75 b * M9 76 a) = M9 75 b * M9 76 a ∧ xa_w64 (M9 76 a * M9 76 b) = M9 76 a * M9 76 b ∧ xa_w64 (xa_w64 (M9 75 a * M9 76 b) - xa_w64 (M9 75 b * M9 76 a)) = M9 75 a * M9 76 b - M9 75 b * M9 76 a ∧ 1 ≤ M9 76 a * M9 76 b ∧ (-1000000000000000000 ≤ M9 75 a * M9 76 b ∧ M9 75 a * M9 76 b ≤ 1000000000000000000) ∧ (-1000000000000000000 ≤ M9 75 b * M9 76 a ∧ M9 75 b * M9 76 a ≤ 1000000000000000000)) := fun z1 z2 => by
                have y1 := hv7 z1
                have y2 := hv9 z2
                have y3 := y3 z1 z2
                have p1 := xm_mul9 (p := M9 75 a) (q := M9 76 b) (by omega) (by omega) (by omega) (by omega)
                have p2 := xm_mul9 (p := M9 75 b) (q := M9 76 a) (by omega) (by omega) (by omega) (by omega)
                have p3 := xm_mul9 (p := M9 76 a) (q := M9 76 b) (by omega) (by omega) (by omega) (by omega)
                have p4 := Int.mul_pos (show 0 < M9 76 a by omega) (show 0 < M9 76 b by omega)
                exact ⟨xa_w64_id (by omega) (by omega), xa_w64_id (by omega) (by omega), xa_w64_id (by omega) (by omega), by rw [xa_w64_id (n := M9 75 a * M9 76 b) (by omega) (by omega), xa_w64_id (n := M9 75 b * M9 76 a) (by omega) (by omega), xa_w64_id (by omega) (by omega)], by omega, p1, p2⟩
              refine And.intro ?_ ?_
              · intro (c10 : 0 ≤ v9)
                refine And.intro (show 0 ≤ a ∧ a < 10 by omega) ?_
                refine And.intro (show 0 ≤ b ∧ b < 10 by omega) ?_
                refine And.intro (show 0 ≤ b ∧ b < 10 by omega) ?_
                refine And.intro (show 0 ≤ a ∧ a < 10 by omega) ?_
                refine And.intro (show 0 ≤ a ∧ a < 10 by omega) ?_
                refine And.intro (show 0 ≤ b ∧ b < 10 by omega) ?_
                show xa_C xm_I A h0 _ 229 [(1, 0, (-9223372036854775808), 9223372036854775807, xa_w64 ((xa_w64 ((M9 75 a) * (M9 76 b))) - (xa_w64 ((M9 75 b) * (M9 76 a))))), (1, 0, (-9223372036854775808), 9223372036854775807, xa_w64 ((M9 76 a) * (M9 76 b)))] M9 _
                refine ct_gcd2 (by omega) (by omega) (fun g11 eg11 pg11 qg11 => ?_)
                refine And.intro ?_ ?_
                · intro (c12 : ((xa_w64 ((M9 76 a) * (M9 76 b))).tdiv g11) ≤ 100000)
                  show xa_C xm_I A h0 _ 231 [(2, 60, 0, 0, 0), (1, 0, (-9223372036854775808), 9223372036854775807, (xa_w64 ((xa_w64 ((M9 75 a) * (M9 76 b))) - (xa_w64 ((M9 75 b) * (M9 76 a))))).tdiv g11)] (xa_up M9 60 20 0) _
                  refine ct_tell (n := 0) (by first | rfl | (simp [xa_up]; done) | omega) (by omega) (by omega) ?_
                  show post (some (0, 0, (-2147483648), 2147483647, xa_w32 ((xa_w64 ((M9 76 a) * (M9 76 b))).tdiv g11))) (xa_up (xa_up (xa_up M9 60 20 0) 74 0 ((xa_w64 ((xa_w64 ((M9 75 a) * (M9 76 b))) - (xa_w64 ((M9 75 b) * (M9 76 a))))).tdiv g11)) 60 20 1)
                  exact k _ _ (xm_cor_f (by omega) (xm_cor_a rfl (xm_cor_f (by omega) (xm_cor_t (xm_cor_t (xm_cor_t (xm_cor_f (by omega) xm_cor_r) hc3) hc7) hc9))))
                · intro (c12 : 100000 < ((xa_w64 ((M9 76 a) * (M9 76 b))).tdiv g11))
                  show post (some (0, 0, (-6), (-6), (-6))) M9
                  exact k _ _ (xm_cor_t (xm_cor_t (xm_cor_t (xm_cor_f (by omega) xm_cor_r) hc3) hc7) hc9)
              · intro (c10 : v9 < 0)
                show post (some (0, 0, (-5), (-5), (-5))) M9
                exact k _ _ (xm_cor_t (xm_cor_t (xm_cor_t (xm_cor_f (by omega) xm_cor_r) hc3) hc7) hc9)
          · intro (c6 : (M3 77 b) = 0)
            show post (some (0, 0, (-2), (-2), (-2))) M3
            exact k _ _ (xm_cor_t (xm_cor_f (by omega) xm_cor_r) hc3)
      · intro (c4 : v3 < 0)
        show post (some (0, 0, (-5), 0, v3)) M3
        exact k _ _ (xm_cor_t (xm_cor_f (by omega) xm_cor_r) hc3)
    · intro (i2 : ¬ (0 ≤ b ∧ b ≤ 9))
      show post (some (0, 0, (-1), (-1), (-1))) (xa_up M 60 21 0)
      exact k _ _ (xm_cor_f (by omega) xm_cor_r)
  · intro (i1 : ¬ (0 ≤ a ∧ a ≤ 9))
    show post (some (0, 0, (-1), (-1), (-1))) (xa_up M 60 21 0)
    exact k _ _ (xm_cor_f (by omega) xm_cor_r)
end
section
-- methods that write what lasts (made by wip/p24/xa/xm6.py)
set_option maxRecDepth 20000
theorem xm_bld_c {M M1 : xa_M} (h : ∀ j, M1 104 j = M 104 j) {i : Int} (hb : xm_bld M i) : xm_bld M1 i := by
  unfold xm_bld at hb ⊢
  simp only [h]
  exact hb
theorem xm_Inv_b {M M1 : xa_M} (h104 : ∀ j, M1 104 j = M 104 j) (h105 : ∀ j, M1 105 j = M 105 j) (hI : xm_Inv M) (c1 : ∀ w, 0 ≤ w → w < M1 60 0 → 10 ≤ M1 61 w ∧ M1 61 w ≤ M1 62 w ∧ 10 ≤ M1 63 w) (c2 : ∀ m, 0 ≤ m → m < M1 60 6 → M1 66 m < M1 60 0 ∧ M1 67 m < M1 60 0) (c3 : ∀ p, 0 ≤ p → p < M1 60 11 → 1 ≤ M1 70 p ∧ 1 ≤ M1 71 p) (c4 : M1 60 15 ≤ M1 60 16) : xm_Inv M1 :=
  ⟨c1, c2, c3, c4, fun i i0 i1 i2 => xm_bld_c h104 (hI.2.2.2.2 i i0 i1 (by rw [← h105]; exact i2))⟩
theorem ct_max {A : Nat → Nat} {h0 : g_H} {d : Nat} {M : xa_M} {post : Option xa_V → xa_M → Prop} {I : xa_I} {l1 u1 l2 u2 a b : Int} (lo hi : Int) (h1 : lo ≤ l1 ∨ lo ≤ l2) (h2 : u1 ≤ hi) (h3 : u2 ≤ hi) (k : ∀ r : Int, (lo ≤ r ∧ r ≤ hi) → (a ≤ r ∧ b ≤ r ∧ (r = a ∨ r = b)) → post (some (0, 0, lo, hi, r)) M) : xa_C I A h0 (d + 1) 35 [(0, 0, l1, u1, a), (0, 0, l2, u2, b)] M post := by
  refine xa_C_asm (fun hM hv => ?_)
  have va : l1 ≤ a ∧ a ≤ u1 := xa_v1 hv (show (0 : Nat) < 2 by decide)
  have vb : l2 ≤ b ∧ b ≤ u2 := xa_v2 hv (show (0 : Nat) < 2 by decide)
  refine xa_C_arg [(0, 0, (-2147483648), 2147483647, a), (0, 0, (-2147483648), 2147483647, b)] (xa_svI (fun _ _ _ _ => by omega) (xa_svI (fun _ _ _ _ => by omega) xa_sv0)) (xa_C_wk ?_)
  refine xa_meth (Q0 := (2, 1, false, 0, 0, 14)) (by decide +kernel) ⟨rfl, rfl⟩ (full := s_c_35) rfl rfl ?_
  intro hM hv Q hgo
  refine hgo.1 10 [] 0 _ _ _ ?_
  refine And.intro ?_ ?_
  · intro (c1 : a < b)
    show xa_wk post (some (0, 0, (-2147483648), 2147483647, b)) M
    exact xa_wkI b rfl (fun _ _ => by omega) (k _ (by omega) (by omega))
  · intro (c1 : b ≤ a)
    show xa_wk post (some (0, 0, (-2147483648), 2147483647, a)) M
    exact xa_wkI a rfl (fun _ _ => by omega) (k _ (by omega) (by omega))
theorem ct_min {A : Nat → Nat} {h0 : g_H} {d : Nat} {M : xa_M} {post : Option xa_V → xa_M → Prop} {I : xa_I} {l1 u1 l2 u2 a b : Int} (lo hi : Int) (h1 : lo ≤ l1) (h2 : lo ≤ l2) (h3 : u1 ≤ hi ∨ u2 ≤ hi) (k : ∀ r : Int, (lo ≤ r ∧ r ≤ hi) → (r ≤ a ∧ r ≤ b ∧ (r = a ∨ r = b)) → post (some (0, 0, lo, hi, r)) M) : xa_C I A h0 (d + 1) 32 [(0, 0, l1, u1, a), (0, 0, l2, u2, b)] M post := by
  refine xa_C_asm (fun hM hv => ?_)
  have va : l1 ≤ a ∧ a ≤ u1 := xa_v1 hv (show (0 : Nat) < 2 by decide)
  have vb : l2 ≤ b ∧ b ≤ u2 := xa_v2 hv (show (0 : Nat) < 2 by decide)
  refine xa_C_arg [(0, 0, (-2147483648), 2147483647, a), (0, 0, (-2147483648), 2147483647, b)] (xa_svI (fun _ _ _ _ => by omega) (xa_svI (fun _ _ _ _ => by omega) xa_sv0)) (xa_C_wk ?_)
  refine xa_meth (Q0 := (2, 1, false, 0, 0, 14)) (by decide +kernel) ⟨rfl, rfl⟩ (full := s_c_32) rfl rfl ?_
  intro hM hv Q hgo
  refine hgo.1 10 [] 0 _ _ _ ?_
  refine And.intro ?_ ?_
  · intro (c1 : b < a)
    show xa_wk post (some (0, 0, (-2147483648), 2147483647, b)) M
    exact xa_wkI b rfl (fun _ _ => by omega) (k _ (by omega) (by omega))
  · intro (c1 : a ≤ b)
    show xa_wk post (some (0, 0, (-2147483648), 2147483647, a)) M
    exact xa_wkI a rfl (fun _ _ => by omega) (k _ (by omega) (by omega))
theorem ct_lost {A : Nat → Nat} {h0 : g_H} {d : Nat} {M : xa_M} {post : Option xa_V → xa_M → Prop} (k : post (some (0, 0, 0, 0, 0)) (xa_up M 60 21 1)) : xa_C xm_I A h0 (d + 1) 224 [(2, 60, 0, 0, 0)] M post := by
  refine xa_meth (Q0 := (1, 1, false, 0, 0, 12)) (by decide +kernel) ⟨rfl, rfl⟩ (full := s_c_224) rfl rfl ?_
  intro hM hv Q hgo
  refine hgo.1 9 [] 0 _ _ _ ?_
  show post (some (0, 0, 0, 0, 0)) (xa_up M 60 21 1)
  exact k
end
section
-- kept builds (made by wip/p24/xa/xm7.py)
set_option maxRecDepth 20000
theorem xa_up_hit {M : xa_M} {q q' : Nat} {j j' v : Int} (h : q' = q ∧ j' = j) : xa_up M q j v q' j' = v := if_pos h
theorem xm_bld_2 {M M1 : xa_M} {i : Int} (h : ∀ j, 124 * i ≤ j → j < 124 * i + 124 → M1 104 j = M 104 j) (hb : xm_bld M i) : xm_bld M1 i := by
  obtain ⟨h1, h2, h3, h4, h5⟩ := hb
  refine ⟨?_, fun w w0 w1 => ?_, ?_, fun m m0 m1 => ?_, fun a a0 a1 => ?_⟩
  · rw [h _ (by omega) (by omega)]
    exact h1
  · rw [h (124 * i) (by omega) (by omega), h (124 * i + 1 + 5 * w) (by omega) (by omega), h (124 * i + 2 + 5 * w) (by omega) (by omega), h (124 * i + 3 + 5 * w) (by omega) (by omega), h (124 * i + 4 + 5 * w) (by omega) (by omega), h (124 * i + 5 + 5 * w) (by omega) (by omega)]
    exact h2 w w0 w1
  · rw [h _ (by omega) (by omega)]
    exact h3
  · rw [h (124 * i) (by omega) (by omega), h (124 * i + 71) (by omega) (by omega), h (124 * i + 72 + 2 * m) (by omega) (by omega), h (124 * i + 73 + 2 * m) (by omega) (by omega)]
    exact h4 m m0 m1
  · rw [h (124 * i + 104 + 2 * a) (by omega) (by omega), h (124 * i + 105 + 2 * a) (by omega) (by omega)]
    exact h5 a a0 a1
/-- what keep has written -/
def xm_kpt (M M1 : xa_M) (a : Int) (w m x : Int) : Prop := (∀ q j, ¬ xm_scr q j → ¬ q = 104 → ¬ q = 105 → M1 q j = M q j) ∧ (∀ j, ¬ j = a → M1 105 j = M 105 j) ∧ (∀ j, ¬ (124 * a ≤ j ∧ j < 124 * a + 124) → M1 104 j = M 104 j) ∧ M1 104 (124 * a) = M 60 0 ∧ (∀ y, 0 ≤ y → y < w → M1 104 (124 * a + 1 + 5 * y) = M 61 y ∧ M1 104 (124 * a + 2 + 5 * y) = M 62 y ∧ M1 104 (124 * a + 3 + 5 * y) = M 63 y ∧ M1 104 (124 * a + 4 + 5 * y) = M 64 y ∧ M1 104 (124 * a + 5 + 5 * y) = M 65 y) ∧ (0 ≤ m → M1 104 (124 * a + 71) = M 60 6) ∧ (∀ y, 0 ≤ y → y < m → M1 104 (124 * a + 72 + 2 * y) = M 66 y ∧ M1 104 (124 * a + 73 + 2 * y) = M 67 y) ∧ (∀ y, 0 ≤ y → y < x → M1 104 (124 * a + 104 + 2 * y) = M 68 y ∧ M1 104 (124 * a + 105 + 2 * y) = M 69 y)
theorem xm_kpt_Inv {M M1 : xa_M} {a : Int} (hM : xa_Mok xm_I M) (hI : xm_Inv M) (h : xm_kpt M M1 a 14 16 10) : xm_Inv M1 := by
  obtain ⟨h1, h2, h3, h4, h5, h6, h7, h8⟩ := h
  have e := fun q j (hn : ¬ xm_scr q j) (hq : ¬ q = 104 ∧ ¬ q = 105) => h1 q j hn hq.1 hq.2
  refine ⟨fun w w0 w1 => ?_, fun m m0 m1 => ?_, fun p p0 p1 => ?_, ?_, fun i i0 i1 i2 => ?_⟩
  · rw [e 60 0 (by omega) (by omega)] at w1
    rw [e 61 w (by omega) (by omega), e 62 w (by omega) (by omega), e 63 w (by omega) (by omega)]
    exact hI.1 w w0 w1
  · rw [e 60 6 (by omega) (by omega)] at m1
    rw [e 66 m (by omega) (by omega), e 67 m (by omega) (by omega), e 60 0 (by omega) (by omega)]
    exact hI.2.1 m m0 m1
  · rw [e 60 11 (by omega) (by omega)] at p1
    rw [e 70 p (by omega) (by omega), e 71 p (by omega) (by omega)]
    exact hI.2.2.1 p p0 p1
  · rw [e 60 15 (by omega) (by omega), e 60 16 (by omega) (by omega)]
    exact hI.2.2.2.1
  · by_cases ei : i = a
    · subst ei
      have b0 := xm_f0 hM
      have b6 := xm_f6 hM
      refine ⟨by omega, fun w w0 w1 => ?_, by have := h6 (by omega); omega, fun m m0 m1 => ?_, fun x x0 x1 => ?_⟩
      · have f := h5 w w0 w1
        have g := hI.1 w w0
        have t1 := xm_t61 hM w w0 (by omega)
        have t2 := xm_t62 hM w w0 (by omega)
        have t3 := xm_t63 hM w w0 (by omega)
        have t4 := xm_t64 hM w w0 (by omega)
        have t5 := xm_t65 hM w w0 (by omega)
        omega
      · have f := h7 m m0 m1
        have g := hI.2.1 m m0
        have t1 := xm_t66 hM m m0 (by omega)
        have t2 := xm_t67 hM m m0 (by omega)
        have h6' := h6 (by omega)
        omega
      · have f := h8 x x0 x1
        have t1 := xm_t68 hM x x0 (by omega)
        have t2 := xm_t69 hM x x0 (by omega)
        omega
    · rw [h2 i ei] at i2
      exact xm_bld_2 (fun j j0 j1 => h3 j (by omega)) (hI.2.2.2.2 i i0 i1 i2)
def xa_bc (n : Int) : Int := xa_ib 3 (xa_w32 ((xa_w32 ((xa_ib 3 (xa_w32 ((xa_w32 ((xa_ib 3 (xa_w32 (n - (xa_ib 3 (xa_ib 8 n 1) 1431655765))) 858993459) + (xa_ib 3 (xa_ib 8 (xa_w32 (n - (xa_ib 3 (xa_ib 8 n 1) 1431655765))) 2) 858993459))) + (xa_ib 8 (xa_w32 ((xa_ib 3 (xa_w32 (n - (xa_ib 3 (xa_ib 8 n 1) 1431655765))) 858993459) + (xa_ib 3 (xa_ib 8 (xa_w32 (n - (xa_ib 3 (xa_ib 8 n 1) 1431655765))) 2) 858993459))) 4))) 252645135) + (xa_ib 8 (xa_ib 3 (xa_w32 ((xa_w32 ((xa_ib 3 (xa_w32 (n - (xa_ib 3 (xa_ib 8 n 1) 1431655765))) 858993459) + (xa_ib 3 (xa_ib 8 (xa_w32 (n - (xa_ib 3 (xa_ib 8 n 1) 1431655765))) 2) 858993459))) + (xa_ib 8 (xa_w32 ((xa_ib 3 (xa_w32 (n - (xa_ib 3 (xa_ib 8 n 1) 1431655765))) 858993459) + (xa_ib 3 (xa_ib 8 (xa_w32 (n - (xa_ib 3 (xa_ib 8 n 1) 1431655765))) 2) 858993459))) 4))) 252645135) 8))) + (xa_ib 8 (xa_w32 ((xa_ib 3 (xa_w32 ((xa_w32 ((xa_ib 3 (xa_w32 (n - (xa_ib 3 (xa_ib 8 n 1) 1431655765))) 858993459) + (xa_ib 3 (xa_ib 8 (xa_w32 (n - (xa_ib 3 (xa_ib 8 n 1) 1431655765))) 2) 858993459))) + (xa_ib 8 (xa_w32 ((xa_ib 3 (xa_w32 (n - (xa_ib 3 (xa_ib 8 n 1) 1431655765))) 858993459) + (xa_ib 3 (xa_ib 8 (xa_w32 (n - (xa_ib 3 (xa_ib 8 n 1) 1431655765))) 2) 858993459))) 4))) 252645135) + (xa_ib 8 (xa_ib 3 (xa_w32 ((xa_w32 ((xa_ib 3 (xa_w32 (n - (xa_ib 3 (xa_ib 8 n 1) 1431655765))) 858993459) + (xa_ib 3 (xa_ib 8 (xa_w32 (n - (xa_ib 3 (xa_ib 8 n 1) 1431655765))) 2) 858993459))) + (xa_ib 8 (xa_w32 ((xa_ib 3 (xa_w32 (n - (xa_ib 3 (xa_ib 8 n 1) 1431655765))) 858993459) + (xa_ib 3 (xa_ib 8 (xa_w32 (n - (xa_ib 3 (xa_ib 8 n 1) 1431655765))) 2) 858993459))) 4))) 252645135) 8))) 16))) 63
theorem ct_bitCount {A : Nat → Nat} {h0 : g_H} {d : Nat} {M : xa_M} {post : Option xa_V → xa_M → Prop} {I : xa_I} {l u n : Int} (k : post (some (0, 0, -2147483648, 2147483647, xa_bc n)) M) : xa_C I A h0 (d + 1) 136 [(0, 0, l, u, n)] M post := by
  refine xa_C_arg [(0, 0, (-2147483648), 2147483647, n)] (xa_svI (fun _ _ _ _ => by omega) xa_sv0) (xa_C_wk ?_)
  refine xa_meth (Q0 := (1, 1, false, 0, 0, 15)) (by decide +kernel) ⟨rfl, rfl⟩ (full := s_c_136) rfl rfl ?_
  intro hM hv Q hgo
  refine hgo.1 46 [] 0 _ _ _ ?_
  show xa_wk post (some (0, 0, (-2147483648), 2147483647, xa_ib 3 (xa_w32 ((xa_w32 ((xa_ib 3 (xa_w32 ((xa_w32 ((xa_ib 3 (xa_w32 (n - (xa_ib 3 (xa_ib 8 n 1) 1431655765))) 858993459) + (xa_ib 3 (xa_ib 8 (xa_w32 (n - (xa_ib 3 (xa_ib 8 n 1) 1431655765))) 2) 858993459))) + (xa_ib 8 (xa_w32 ((xa_ib 3 (xa_w32 (n - (xa_ib 3 (xa_ib 8 n 1) 1431655765))) 858993459) + (xa_ib 3 (xa_ib 8 (xa_w32 (n - (xa_ib 3 (xa_ib 8 n 1) 1431655765))) 2) 858993459))) 4))) 252645135) + (xa_ib 8 (xa_ib 3 (xa_w32 ((xa_w32 ((xa_ib 3 (xa_w32 (n - (xa_ib 3 (xa_ib 8 n 1) 1431655765))) 858993459) + (xa_ib 3 (xa_ib 8 (xa_w32 (n - (xa_ib 3 (xa_ib 8 n 1) 1431655765))) 2) 858993459))) + (xa_ib 8 (xa_w32 ((xa_ib 3 (xa_w32 (n - (xa_ib 3 (xa_ib 8 n 1) 1431655765))) 858993459) + (xa_ib 3 (xa_ib 8 (xa_w32 (n - (xa_ib 3 (xa_ib 8 n 1) 1431655765))) 2) 858993459))) 4))) 252645135) 8))) + (xa_ib 8 (xa_w32 ((xa_ib 3 (xa_w32 ((xa_w32 ((xa_ib 3 (xa_w32 (n - (xa_ib 3 (xa_ib 8 n 1) 1431655765))) 858993459) + (xa_ib 3 (xa_ib 8 (xa_w32 (n - (xa_ib 3 (xa_ib 8 n 1) 1431655765))) 2) 858993459))) + (xa_ib 8 (xa_w32 ((xa_ib 3 (xa_w32 (n - (xa_ib 3 (xa_ib 8 n 1) 1431655765))) 858993459) + (xa_ib 3 (xa_ib 8 (xa_w32 (n - (xa_ib 3 (xa_ib 8 n 1) 1431655765))) 2) 858993459))) 4))) 252645135) + (xa_ib 8 (xa_ib 3 (xa_w32 ((xa_w32 ((xa_ib 3 (xa_w32 (n - (xa_ib 3 (xa_ib 8 n 1) 1431655765))) 858993459) + (xa_ib 3 (xa_ib 8 (xa_w32 (n - (xa_ib 3 (xa_ib 8 n 1) 1431655765))) 2) 858993459))) + (xa_ib 8 (xa_w32 ((xa_ib 3 (xa_w32 (n - (xa_ib 3 (xa_ib 8 n 1) 1431655765))) 858993459) + (xa_ib 3 (xa_ib 8 (xa_w32 (n - (xa_ib 3 (xa_ib 8 n 1) 1431655765))) 2) 858993459))) 4))) 252645135) 8))) 16))) 63)) M
  exact xa_wkI (xa_bc n) rfl (fun _ _ => by omega) k
theorem ct_putCell {A : Nat → Nat} {h0 : g_H} {d : Nat} {M : xa_M} {post : Option xa_V → xa_M → Prop} {l u v n : Int} (hn : M 60 68 = n) (h1 : 0 ≤ n) (h2 : n < 496) (k : post none (xa_up (xa_up M 104 n v) 60 68 (n + 1))) : xa_C xm_I A h0 (d + 1) 294 [(2, 60, 0, 0, 0), (0, 0, l, u, v)] M post := by
  subst hn
  refine xa_C_arg [(2, 60, 0, 0, 0), (0, 0, (-2147483648), 2147483647, v)] (xa_svR (xa_svI (fun _ _ _ _ => by omega) xa_sv0)) ?_
  refine xa_meth (Q0 := (2, 0, false, 0, 0, 12)) (by decide +kernel) ⟨rfl, rfl⟩ (full := s_c_294) rfl rfl ?_
  intro hM hv Q hgo
  refine hgo.1 17 [] 0 _ _ _ ?_
  refine And.intro (show 0 ≤ (M 60 68) ∧ (M 60 68) < 496 by omega) ?_
  refine And.intro (show 0 ≤ ((M 60 68) + 1) ∧ ((M 60 68) + 1) ≤ 496 by omega) ?_
  show post none (xa_up (xa_up M 104 (M 60 68) v) 60 68 ((M 60 68) + 1))
  exact k
theorem ct_nextCell {A : Nat → Nat} {h0 : g_H} {d : Nat} {M : xa_M} {post : Option xa_V → xa_M → Prop} {n : Int} (hn : M 60 68 = n) (h1 : 0 ≤ n) (h2 : n < 496) (k : post (some (0, 0, -2147483648, 2147483647, M 104 n)) (xa_up M 60 68 (n + 1))) : xa_C xm_I A h0 (d + 1) 296 [(2, 60, 0, 0, 0)] M post := by
  subst hn
  refine xa_meth (Q0 := (1, 1, false, 0, 0, 12)) (by decide +kernel) ⟨rfl, rfl⟩ (full := s_c_296) rfl rfl ?_
  intro hM hv Q hgo
  refine hgo.1 18 [] 0 _ _ _ ?_
  refine And.intro (show 0 ≤ ((M 60 68) + 1) ∧ ((M 60 68) + 1) ≤ 496 by omega) ?_
  refine And.intro (show 0 ≤ (((M 60 68) + 1) - 1) ∧ (((M 60 68) + 1) - 1) < 496 by omega) ?_
  show post (some (0, 0, (-2147483648), 2147483647, M 104 (((M 60 68) + 1) - 1))) (xa_up M 60 68 ((M 60 68) + 1))
  have e : M 60 68 + 1 - 1 = M 60 68 := by omega
  rw [e]
  exact k
end
section
-- a kept build again; two of them (made by wip/p24/xa/xm8.py)
set_option maxRecDepth 20000
/-- what again has read -/
def xm_agn (M M1 : xa_M) (a : Int) (w m : Int) : Prop := (∀ q j, ¬ xm_scr q j → ¬ (q = 60 ∧ (j = 0 ∨ j = 6)) → ¬ (61 ≤ q ∧ q ≤ 69) → M1 q j = M q j) ∧ M1 60 0 = M 104 (124 * a) ∧ (∀ y, 0 ≤ y → y < w → M1 61 y = M 104 (124 * a + 1 + 5 * y) ∧ M1 62 y = M 104 (124 * a + 2 + 5 * y) ∧ M1 63 y = M 104 (124 * a + 3 + 5 * y)) ∧ (0 ≤ m → M1 60 6 = M 104 (124 * a + 71)) ∧ (∀ y, 0 ≤ y → y < m → M1 66 y = M 104 (124 * a + 72 + 2 * y) ∧ M1 67 y = M 104 (124 * a + 73 + 2 * y))
theorem xm_agn_Inv {M M1 : xa_M} {a : Int} (hI : xm_Inv M) (hb : xm_bld M a) (h : xm_agn M M1 a 14 16) : xm_Inv M1 := by
  obtain ⟨h1, h2, h3, h4, h5⟩ := h
  have h6 := h4 (by omega)
  have b1 := hb.1
  have b3 := hb.2.2.1
  refine ⟨fun w w0 w1 => ?_, fun m m0 m1 => ?_, fun p p0 p1 => ?_, ?_, fun i i0 i1 i2 => ?_⟩
  · have f := h3 w w0 (by omega)
    have g := hb.2.1 w w0 (by omega)
    omega
  · have f := h5 m m0 (by omega)
    have g := hb.2.2.2.1 m m0 (by omega)
    omega
  · rw [h1 60 11 (by omega) (by omega) (by omega)] at p1
    rw [h1 70 p (by omega) (by omega) (by omega), h1 71 p (by omega) (by omega) (by omega)]
    exact hI.2.2.1 p p0 p1
  · rw [h1 60 15 (by omega) (by omega) (by omega), h1 60 16 (by omega) (by omega) (by omega)]
    exact hI.2.2.2.1
  · rw [h1 105 i (by omega) (by omega) (by omega)] at i2
    exact xm_bld_2 (fun j _ _ => h1 104 j (by omega) (by omega) (by omega)) (hI.2.2.2.2 i i0 i1 i2)
end
