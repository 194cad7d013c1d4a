-- the law's own code between its calls: its steps are the machine's
section Z2
variable {N b : Nat} {xs : Nat → Int32} {P : g_S → Prop} {E : z_E} {L : z_L} {st rest : List z_V} {F : z_F} {v u : z_V} {x : Value} {w : g_W} {full t : List s_I} {pc a k : Nat} {ins : Instr} {Xs : List z_X}
theorem z_ld_g {k : Nat} (h : s_ldI ins = some (a, k)) (hk : (k = 0 ∧ ∃ n, x = .int n) ∨ (k = 2 ∧ ∃ z, x = .ref z)) : ∃ p, g_load ins = some (a, s_len ins, p) ∧ p x = true := by
  cases ins <;> simp only [s_ldI, reduceCtorEq, Option.some.injEq, Prod.mk.injEq] at h <;> obtain ⟨rfl, rfl⟩ := h <;> refine ⟨_, rfl, ?_⟩
  · rcases hk with ⟨h, -⟩ | ⟨-, z, rfl⟩
    · cases h
    · rfl
  · rcases hk with ⟨h, -⟩ | ⟨-, z, rfl⟩
    · cases h
    · rfl
  · rcases hk with ⟨-, z, rfl⟩ | ⟨h, -⟩
    · rfl
    · cases h
  · rcases hk with ⟨-, z, rfl⟩ | ⟨h, -⟩
    · rfl
    · cases h
  · rcases hk with ⟨h, -⟩ | ⟨h, -⟩ <;> cases h
  · rcases hk with ⟨h, -⟩ | ⟨h, -⟩ <;> cases h
theorem z_st_g {k : Nat} {two : Bool} (h : s_stI ins = some (a, two, k)) (hk : (k = 0 ∧ ∃ n, x = .int n) ∨ (k = 1 ∧ ∃ z, x = .long z)) : ∃ p, g_stor ins = some (a, s_len ins, two, p) ∧ p x = true := by
  cases ins <;> simp only [s_stI, reduceCtorEq, Option.some.injEq, Prod.mk.injEq] at h <;> obtain ⟨rfl, rfl, rfl⟩ := h <;> refine ⟨_, rfl, ?_⟩
  · rcases hk with ⟨h, -⟩ | ⟨h, -⟩ <;> cases h
  · rcases hk with ⟨h, -⟩ | ⟨h, -⟩ <;> cases h
  · rcases hk with ⟨-, z, rfl⟩ | ⟨h, -⟩
    · rfl
    · cases h
  · rcases hk with ⟨-, z, rfl⟩ | ⟨h, -⟩
    · rfl
    · cases h
  · rcases hk with ⟨h, -⟩ | ⟨-, z, rfl⟩
    · cases h
    · rfl
  · rcases hk with ⟨h, -⟩ | ⟨-, z, rfl⟩
    · cases h
    · rfl
theorem z_i32 {n : Int} (h1 : -10000 ≤ n) (h2 : n ≤ 10000) : (Int32.ofInt n).toInt = n := Int32.toInt_ofInt_of_le (by omega) (by omega)
/-- one way on -/
theorem z_one (hgo : s_pc t = pc) {L' : z_L} {st' : List z_V} {F' : z_F} (h : ∀ X ∈ [((t, L', st', F') : z_X)], z_P E P w (s_pc X.1) X.2.1 X.2.2.1 X.2.2.2) {Ls : g_L} {sts : List Value} (hL : z_gL E L' Ls) (hS : z_gS E st' sts) (hF : z_gF E F') : P (pc, Ls, sts, w) := by
  rw [← hgo]
  exact h _ List.mem_cons_self Ls sts hL hS hF
theorem z_okt {L' : z_L} {st' : List z_V} {F' : z_F} (hIt : ∀ r ∈ t, s_okI code 13 r = true) : ∀ X ∈ [((t, L', st', F') : z_X)], ∀ q ∈ X.1, s_okI code 13 q = true := by
  intro X hX
  rw [List.mem_singleton] at hX
  subst hX
  exact hIt
theorem z_do_ok (hP : z_cl N b xs P) (hE : z_ok N b xs E) (hfull : ∀ r ∈ full, s_okI code 13 r = true) {r : s_I} (hI : s_okI code 13 r = true) (hIt : ∀ q ∈ t, s_okI code 13 q = true) (e : z_do full r t L st F = some Xs) :
    (∀ X ∈ Xs, ∀ q ∈ X.1, s_okI code 13 q = true) ∧ ((∀ X ∈ Xs, z_P E P w (s_pc X.1) X.2.1 X.2.2.1 X.2.2.2) → z_P E P w r.1 L st F) := by
  obtain ⟨hcl, hlen, hld⟩ := hP
  obtain ⟨i0, i5, n2, hN, hb, hxs⟩ := hE
  obtain ⟨pc, len, q, kd, a, k, v, ins⟩ := r
  by_cases h44 : q < 44
  · obtain ⟨⟨n, hd, hlen9, hne⟩, hQ, hlk⟩ := s_okI_eq hI h44
    have hgo1 : s_go (pc, len, q, kd, a, k, v, ins) t = true → q ≠ 25 → s_pc t = pc + s_len ins := fun hg h25 => by rw [← hne h25, ← hlen9]; exact s_go_eq hg
    have hd1 : q ≠ 25 → decode code pc = .ok (ins, s_len ins) := fun h25 => by rw [← hne h25]; exact hd
    unfold z_do at e
    simp only at e
    split at e
    next =>
      obtain ⟨h1, h2⟩ := s_bif e
      rw [Bool.and_eq_true, Bool.and_eq_true, Nat.beq_eq] at h1
      obtain ⟨hg, rfl, hv⟩ := h1
      cases h2
      have hv := z_sm_ok hv
      have hc := s_con_g (σ := fun _ => 0) (ρ := fun _ => 0) (b := 0) (of_decide_eq_true (show decide (s_conI ins = some (0, v)) = true from hQ))
      refine ⟨z_okt hIt, fun hX Ls sts hL hS hF => ?_⟩
      exact hcl _ ⟨ins, _, hd1 (by decide), Or.inl (Or.inl ⟨_, hc, z_one (hgo1 hg (by decide)) hX hL ⟨⟨_, rfl, z_i32 hv.1 hv.2⟩, hS⟩ hF⟩)⟩
    next =>
      obtain ⟨hg, h2⟩ := s_bif e
      have hQ := of_decide_eq_true (show decide (s_ldI ins = some (a, k)) = true from hQ)
      unfold z_q1 at h2
      split at h2
      next v ev =>
        obtain ⟨h3, h4⟩ := s_bif h2
        cases h4
        refine ⟨z_okt hIt, fun hX Ls sts hL hS hF => ?_⟩
        obtain ⟨x, hx, hgx⟩ := hL _ (z_find_in ev)
        have hk : (k = 0 ∧ ∃ n, x = .int n) ∨ (k = 2 ∧ ∃ z, x = .ref z) := by
          rw [Bool.or_eq_true, Bool.and_eq_true, Bool.and_eq_true, Nat.beq_eq, Nat.beq_eq] at h3
          rcases h3 with ⟨h3, h5⟩ | ⟨h3, h5⟩
          · exact Or.inl ⟨h3, z_isI_g h5 hgx⟩
          · exact Or.inr ⟨h3, z_isR_g h5 hgx⟩
        obtain ⟨p, g1, g2⟩ := z_ld_g hQ hk
        exact hcl _ ⟨ins, _, hd1 (by decide), Or.inl (Or.inr (Or.inl ⟨_, _, _, g1, hx, g2, z_one (hgo1 hg (by decide)) hX hL ⟨hgx, hS⟩ hF⟩))⟩
      next => cases h2
    next =>
      obtain ⟨hg, h2⟩ := s_bif e
      have hQ := of_decide_eq_true (show decide (s_stI ins = some (a, false, k)) = true from hQ)
      unfold z_q2 at h2
      split at h2
      next v rest =>
        obtain ⟨h3, h4⟩ := s_bif h2
        cases h4
        rw [Bool.and_eq_true, Bool.and_eq_true, Nat.beq_eq, Nat.blt_eq] at h3
        refine ⟨z_okt hIt, fun hX Ls sts hL hS hF => ?_⟩
        obtain ⟨x, ys, rfl, hgx, hS'⟩ := z_gS_c hS
        obtain ⟨p, g1, g2⟩ := z_st_g hQ (Or.inl ⟨h3.1, z_isI_g h3.2.1 hgx⟩)
        exact hcl _ ⟨ins, _, hd1 (by decide), Or.inl (Or.inr (Or.inr (Or.inl ⟨_, _, _, _, g1, rfl, g2, h3.2.2, z_one (hgo1 hg (by decide)) hX (z_gL_1 hL hgx) hS' hF⟩)))⟩
      next => cases h2
    next =>
      obtain ⟨hg, h2⟩ := s_bif e
      have hQ := of_decide_eq_true (show decide (s_stI ins = some (a, true, k)) = true from hQ)
      unfold z_q3 at h2
      split at h2
      next v rest =>
        obtain ⟨h3, h4⟩ := s_bif h2
        cases h4
        rw [Bool.and_eq_true, Bool.and_eq_true, Nat.beq_eq, Nat.beq_eq, Nat.blt_eq] at h3
        refine ⟨z_okt hIt, fun hX Ls sts hL hS hF => ?_⟩
        obtain ⟨x, ys, rfl, hgx, hS'⟩ := z_gS_c hS
        have hlx : ∃ z, x = .long z := by
          obtain ⟨v1, v2⟩ := v
          have : v1 = 6 := h3.2.1
          subst this
          exact hgx
        obtain ⟨p, g1, g2⟩ := z_st_g hQ (Or.inr ⟨h3.1, hlx⟩)
        exact hcl _ ⟨ins, _, hd1 (by decide), Or.inl (Or.inr (Or.inr (Or.inr (Or.inl ⟨_, _, _, _, g1, rfl, g2, h3.2.2, z_one (hgo1 hg (by decide)) hX (z_gL_2 hL hgx) hS' hF⟩))))⟩
      next => cases h2
    next =>
      obtain ⟨hg, h2⟩ := s_bif e
      have hi := of_decide_eq_true (show decide (ins = .iinc a v) = true from hQ)
      subst hi
      unfold z_q4 at h2
      split at h2
      next c ev =>
        obtain ⟨h3, h4⟩ := s_bif h2
        cases h4
        rw [Bool.and_eq_true, Bool.and_eq_true, Nat.blt_eq] at h3
        obtain ⟨h3, c1, c2⟩ := h3
        have c1 := z_sm_ok c1
        have c2 := z_sm_ok c2
        refine ⟨z_okt hIt, fun hX Ls sts hL hS hF => ?_⟩
        obtain ⟨x, hx, m, rfl, hm⟩ := hL _ (z_find_in ev)
        have hv : z_g E (1, c + v) (.int (m + Int32.ofInt v)) := by
          refine ⟨_, rfl, ?_⟩
          rw [Int32.toInt_add, hm, z_i32 c2.1 c2.2]
          rw [show E.1 + c + v = E.1 + (c + v) by omega]
          apply Int.bmod_eq_of_le <;> omega
        exact hcl _ ⟨_, _, hd1 (by decide), Or.inl (Or.inr (Or.inr (Or.inr (Or.inr (Or.inl ⟨_, _, _, rfl, Or.inl rfl, hx, h3, z_one (hgo1 hg (by decide)) hX (z_gL_1 hL hv) hS hF⟩)))))⟩
      next => cases h2
    next =>
      obtain ⟨hg, h2⟩ := s_bif e
      have hi := of_decide_eq_true (show decide (ins = .pop) = true from hQ)
      subst hi
      unfold z_q6 at h2
      split at h2
      next v rest =>
        obtain ⟨h3, h4⟩ := s_bif h2
        cases h4
        refine ⟨z_okt hIt, fun hX Ls sts hL hS hF => ?_⟩
        obtain ⟨x, ys, rfl, hgx, hS'⟩ := z_gS_c hS
        have hc : x.category = 1 := by
          rw [z_cat hgx]
          unfold z_c1 at h3
          cases e6 : Nat.beq v.1 6
          · rfl
          · rw [e6] at h3; cases h3
        exact hcl _ ⟨_, _, hd1 (by decide), Or.inl (Or.inr (Or.inr (Or.inr (Or.inr (Or.inr (Or.inr (Or.inl ⟨_, _, rfl, rfl, rfl, hc, z_one (hgo1 hg (by decide)) hX hL hS' hF⟩)))))))⟩
      next => cases h2
    next =>
      obtain ⟨hg, h2⟩ := s_bif e
      have hQ := of_decide_eq_true (show decide (s_ibn ins = some a) = true from hQ)
      obtain ⟨g1, g2⟩ := s_ib_g hQ
      have hd' := hd1 (by decide)
      have hgo := hgo1 hg (by decide)
      rw [g2] at hd' hgo
      unfold z_q11 at h2
      split at h2
      next y x rest =>
        cases e1 : (Nat.beq a 0 && (Nat.beq x.1 1 && (Nat.beq y.1 3 && (z_sm x.2 && z_sm y.2))))
        · rw [e1, cond_false] at h2
          cases e2 : (Nat.beq a 1 && (Nat.beq x.1 2 && (Nat.beq y.1 3 && (z_sm x.2 && z_sm y.2))))
          · rw [e2, cond_false] at h2
            obtain ⟨h3, h4⟩ := s_bif h2
            cases h4
            rw [Bool.and_eq_true] at h3
            refine ⟨z_okt hIt, fun hX Ls sts hL hS hF => ?_⟩
            obtain ⟨x', ys, rfl, hgy, hS'⟩ := z_gS_c hS
            obtain ⟨y', zs, rfl, hgx, hS2⟩ := z_gS_c hS'
            obtain ⟨m1, rfl⟩ := z_isI_g h3.2 hgy
            obtain ⟨m2, rfl⟩ := z_isI_g h3.1 hgx
            exact hcl _ ⟨_, _, hd', Or.inr (Or.inl (Or.inl ⟨_, _, _, _, g1, rfl, rfl, z_one hgo hX hL ⟨⟨_, rfl⟩, hS2⟩ hF⟩))⟩
          · rw [e2, cond_true] at h2
            cases h2
            simp only [Bool.and_eq_true, Nat.beq_eq] at e2
            obtain ⟨rfl, x1, y1, c1, c2⟩ := e2
            have c1 := z_sm_ok c1
            have c2 := z_sm_ok c2
            refine ⟨z_okt hIt, fun hX Ls sts hL hS hF => ?_⟩
            obtain ⟨x', ys, rfl, hgy, hS'⟩ := z_gS_c hS
            obtain ⟨y', zs, rfl, hgx, hS2⟩ := z_gS_c hS'
            obtain ⟨xk, xc⟩ := x
            obtain ⟨yk, yc⟩ := y
            have x1' : xk = 2 := x1
            have y1' : yk = 3 := y1
            subst x1' y1'
            obtain ⟨m1, rfl, hm1⟩ := hgy
            obtain ⟨m2, rfl, hm2⟩ := hgx
            have hv : z_g E (2, xc - yc) (.int (m2 - m1)) := by
              refine ⟨_, rfl, ?_⟩
              rw [Int32.toInt_sub, hm1, hm2]
              rw [show E.2.1 + xc - yc = E.2.1 + (xc - yc) by omega]
              have d1 : -10000 ≤ xc ∧ xc ≤ 10000 := c1
              have d2 : -10000 ≤ yc ∧ yc ≤ 10000 := c2
              apply Int.bmod_eq_of_le <;> omega
            exact hcl _ ⟨_, _, hd', Or.inr (Or.inl (Or.inl ⟨_, _, _, _, g1, rfl, rfl, z_one hgo hX hL ⟨hv, hS2⟩ hF⟩))⟩
        · rw [e1, cond_true] at h2
          cases h2
          simp only [Bool.and_eq_true, Nat.beq_eq] at e1
          obtain ⟨rfl, x1, y1, c1, c2⟩ := e1
          have c1 := z_sm_ok c1
          have c2 := z_sm_ok c2
          refine ⟨z_okt hIt, fun hX Ls sts hL hS hF => ?_⟩
          obtain ⟨x', ys, rfl, hgy, hS'⟩ := z_gS_c hS
          obtain ⟨y', zs, rfl, hgx, hS2⟩ := z_gS_c hS'
          obtain ⟨xk, xc⟩ := x
          obtain ⟨yk, yc⟩ := y
          have x1' : xk = 1 := x1
          have y1' : yk = 3 := y1
          subst x1' y1'
          obtain ⟨m1, rfl, hm1⟩ := hgy
          obtain ⟨m2, rfl, hm2⟩ := hgx
          have hv : z_g E (1, xc + yc) (.int (m2 + m1)) := by
            refine ⟨_, rfl, ?_⟩
            rw [Int32.toInt_add, hm1, hm2]
            rw [show E.1 + xc + yc = E.1 + (xc + yc) by omega]
            have d1 : -10000 ≤ xc ∧ xc ≤ 10000 := c1
            have d2 : -10000 ≤ yc ∧ yc ≤ 10000 := c2
            apply Int.bmod_eq_of_le <;> omega
          exact hcl _ ⟨_, _, hd', Or.inr (Or.inl (Or.inl ⟨_, _, _, _, g1, rfl, rfl, z_one hgo hX hL ⟨hv, hS2⟩ hF⟩))⟩
      next => cases h2
    next =>
      have hQ' : ∃ off, ins = .goto off ∧ (pc : Int) + off = (a : Int) := by
        clear hd hne hlk hgo1 hd1 e
        revert hQ
        cases ins <;> intro hQ <;> first | exact ⟨_, rfl, of_decide_eq_true hQ⟩ | cases hQ
      obtain ⟨off, rfl, hoff⟩ := hQ'
      split at e
      next c ec =>
        cases e
        refine ⟨z_okt (fun q hq => hfull q (s_jump_in ec q hq)), fun hX Ls sts hL hS hF => ?_⟩
        exact hcl _ ⟨_, _, hd1 (by decide), Or.inr (Or.inr (Or.inl (Or.inl ⟨_, _, rfl, rfl, hoff, z_one (s_jump_eq ec) hX hL hS hF⟩)))⟩
      next => cases e
    next =>
      obtain ⟨hg, h2⟩ := s_bif e
      have hQ' : ∃ cd off, ins = .ifCond cd off ∧ (pc : Int) + off = (a : Int) ∧ s_cdn cd = k := by
        clear hd hne hlk hgo1 hd1 e
        revert hQ
        cases ins <;> intro hQ <;> first | exact ⟨_, _, rfl, of_decide_eq_true ((Bool.and_eq_true _ _).mp hQ).1, Nat.beq_eq.mp ((Bool.and_eq_true _ _).mp hQ).2⟩ | cases hQ
      obtain ⟨cd, off, rfl, hoff, hcd⟩ := hQ'
      have hgo := hgo1 hg (by decide)
      have hd' := hd1 (by decide)
      unfold z_q21 at h2
      split at h2
      next x rest =>
        obtain ⟨h3, h4⟩ := s_bif h2
        rw [Bool.and_eq_true, Nat.beq_eq, Nat.ble_eq] at h3
        obtain ⟨x1, hk1⟩ := h3
        obtain ⟨xk, xc⟩ := x
        have x1' : xk = 8 := x1
        subst x1'
        split at h4
        next c ec =>
          have hj := s_jump_eq ec
          have hokc : ∀ q ∈ c, s_okI code 13 q = true := fun q hq => hfull q (s_jump_in ec q hq)
          -- what the branch does
          have br : ∀ {Ls : g_L} {sts : List Value}, (E.2.2.2.2.1 (E.1 + xc).toNat = 0 → P (if k = 0 then a else pc + 3, Ls, sts, w)) → (¬ E.2.2.2.2.1 (E.1 + xc).toNat = 0 → P (if k = 0 then pc + 3 else a, Ls, sts, w)) → P (pc, Ls, .int (E.2.2.2.2.1 (E.1 + xc).toNat) :: sts, w) := by
            intro Ls sts k1 k2
            refine hcl _ ⟨_, _, hd', Or.inr (Or.inr (Or.inl (Or.inr (Or.inl ⟨_, _, _, _, _, rfl, rfl, hoff, rfl, ?_⟩))))⟩
            have hkk : k = 0 ∨ k = 1 := by omega
            by_cases hz : E.2.2.2.2.1 (E.1 + xc).toNat = 0
            · have q1 := k1 hz
              rcases hkk with hk | hk <;> rw [hk] at hcd q1 <;> cases cd <;> first | (exfalso; revert hcd; decide) | (rw [hz]; exact q1)
            · have q2 := k2 hz
              rcases hkk with hk | hk <;> rw [hk] at hcd q2 <;> cases cd <;> first | (exfalso; revert hcd; decide) | (simp only [g_c1, decide_eq_true_eq]; first | (rw [if_neg hz]; exact q2) | (rw [if_pos hz]; exact q2))
          have hF8 : ∀ {Ls : g_L} {sts : List Value}, z_gL E L Ls → z_gS E rest sts → z_gF E F → (u : Bool) → (u = true ↔ ¬ E.2.2.2.2.1 (E.1 + xc).toNat = 0) → z_gF E ((xc, u) :: F) := by
            intro Ls sts _ _ hF u hu q hq
            rcases List.mem_cons.mp hq with rfl | hq
            · exact hu
            · exact hF q hq
          have hl3 : s_len (.ifCond cd off) = 3 := rfl
          rw [hl3] at hgo
          split at h4
          next u hu =>
            have hu' := z_ff_in hu
            cases u with
            | true =>
              rw [cond_true] at h4
              cases eb : Nat.beq k 0
              · rw [eb, cond_false] at h4
                cases h4
                have hk0 : ¬ k = 0 := fun h => by rw [h] at eb; cases eb
                refine ⟨z_okt hokc, fun hX Ls sts hL hS hF => ?_⟩
                obtain ⟨x', ys, rfl, hgx, hS'⟩ := z_gS_c hS
                have ex : x' = .int (E.2.2.2.2.1 (E.1 + xc).toNat) := hgx
                subst ex
                refine br (fun hz => absurd hz ((hF _ hu').1 rfl)) (fun _ => ?_)
                rw [if_neg hk0]
                exact z_one hj hX hL hS' hF
              · rw [eb, cond_true] at h4
                cases h4
                have hk0 : k = 0 := Nat.beq_eq.mp eb
                refine ⟨z_okt hIt, fun hX Ls sts hL hS hF => ?_⟩
                obtain ⟨x', ys, rfl, hgx, hS'⟩ := z_gS_c hS
                have ex : x' = .int (E.2.2.2.2.1 (E.1 + xc).toNat) := hgx
                subst ex
                refine br (fun hz => absurd hz ((hF _ hu').1 rfl)) (fun _ => ?_)
                rw [if_pos hk0]
                exact z_one hgo hX hL hS' hF
            | false =>
              rw [cond_false] at h4
              have hz0 : z_gF E F → E.2.2.2.2.1 (E.1 + xc).toNat = 0 := fun hF => Classical.byContradiction (fun hn => by have := (hF _ hu').2 hn; cases this)
              cases eb : Nat.beq k 0
              · rw [eb, cond_false] at h4
                cases h4
                have hk0 : ¬ k = 0 := fun h => by rw [h] at eb; cases eb
                refine ⟨z_okt hIt, fun hX Ls sts hL hS hF => ?_⟩
                obtain ⟨x', ys, rfl, hgx, hS'⟩ := z_gS_c hS
                have ex : x' = .int (E.2.2.2.2.1 (E.1 + xc).toNat) := hgx
                subst ex
                refine br (fun _ => ?_) (fun hz => absurd (hz0 hF) hz)
                rw [if_neg hk0]
                exact z_one hgo hX hL hS' hF
              · rw [eb, cond_true] at h4
                cases h4
                have hk0 : k = 0 := Nat.beq_eq.mp eb
                refine ⟨z_okt hokc, fun hX Ls sts hL hS hF => ?_⟩
                obtain ⟨x', ys, rfl, hgx, hS'⟩ := z_gS_c hS
                have ex : x' = .int (E.2.2.2.2.1 (E.1 + xc).toNat) := hgx
                subst ex
                refine br (fun _ => ?_) (fun hz => absurd (hz0 hF) hz)
                rw [if_pos hk0]
                exact z_one hj hX hL hS' hF
          next hu =>
            have two : ∀ {X1 X2 : z_X}, (∀ q ∈ X1.1, s_okI code 13 q = true) → (∀ q ∈ X2.1, s_okI code 13 q = true) → ∀ X ∈ [X1, X2], ∀ q ∈ X.1, s_okI code 13 q = true := by
              intro X1 X2 h1 h2 X hX
              rcases List.mem_cons.mp hX with rfl | hX
              · exact h1
              · rw [List.mem_singleton] at hX
                subst hX
                exact h2
            cases eb : Nat.beq k 0
            · rw [eb, cond_false] at h4
              cases h4
              have hk0 : ¬ k = 0 := fun h => by rw [h] at eb; cases eb
              refine ⟨two hokc hIt, fun hX Ls sts hL hS hF => ?_⟩
              obtain ⟨x', ys, rfl, hgx, hS'⟩ := z_gS_c hS
              have ex : x' = .int (E.2.2.2.2.1 (E.1 + xc).toNat) := hgx
              subst ex
              refine br (fun hz => ?_) (fun hz => ?_)
              · rw [if_neg hk0, ← hgo]
                exact hX _ (List.mem_cons_of_mem _ List.mem_cons_self) Ls ys hL hS' (hF8 hL hS' hF false ⟨(fun h => by cases h), fun h => absurd hz h⟩)
              · rw [if_neg hk0, ← hj]
                exact hX _ List.mem_cons_self Ls ys hL hS' (hF8 hL hS' hF true ⟨fun _ => hz, fun _ => rfl⟩)
            · rw [eb, cond_true] at h4
              cases h4
              have hk0 : k = 0 := Nat.beq_eq.mp eb
              refine ⟨two hokc hIt, fun hX Ls sts hL hS hF => ?_⟩
              obtain ⟨x', ys, rfl, hgx, hS'⟩ := z_gS_c hS
              have ex : x' = .int (E.2.2.2.2.1 (E.1 + xc).toNat) := hgx
              subst ex
              refine br (fun hz => ?_) (fun hz => ?_)
              · rw [if_pos hk0, ← hj]
                exact hX _ List.mem_cons_self Ls ys hL hS' (hF8 hL hS' hF false ⟨(fun h => by cases h), fun h => absurd hz h⟩)
              · rw [if_pos hk0, ← hgo]
                exact hX _ (List.mem_cons_of_mem _ List.mem_cons_self) Ls ys hL hS' (hF8 hL hS' hF true ⟨fun _ => hz, fun _ => rfl⟩)
        next => cases h4
      next => cases h2
    next =>
      obtain ⟨hg, h2⟩ := s_bif e
      have hi := of_decide_eq_true (show decide (ins = .arraylength) = true from hQ)
      subst hi
      unfold z_q28 at h2
      split at h2
      next x rest =>
        obtain ⟨h3, h4⟩ := s_bif h2
        cases h4
        rw [Nat.beq_eq] at h3
        obtain ⟨xk, xc⟩ := x
        have h3' : xk = 4 := h3
        subst h3'
        refine ⟨z_okt hIt, fun hX Ls sts hL hS hF => ?_⟩
        obtain ⟨x', ys, rfl, hgx, hS'⟩ := z_gS_c hS
        have ex : x' = .ref E.2.2.1 := hgx
        subst ex
        rw [hb]
        refine hlen pc Ls ys w (hd1 (by decide)) (z_one (hgo1 hg (by decide)) hX hL ⟨⟨_, rfl, ?_⟩, hS'⟩ hF)
        have := Int32.toInt_ofNat_of_lt (show N < 2 ^ 31 by omega)
        omega
      next => cases h2
    next =>
      obtain ⟨hg, h2⟩ := s_bif e
      unfold z_q32 at h2
      split at h2
      next j x rest =>
        obtain ⟨h3, h4⟩ := s_bif h2
        cases h4
        simp only [Bool.and_eq_true, Nat.beq_eq, decide_eq_true_eq] at h3
        obtain ⟨rfl, j1, x1, j0, j4⟩ := h3
        obtain ⟨jk, jc⟩ := j
        obtain ⟨xk, xc⟩ := x
        have j1' : jk = 1 := j1
        have x1' : xk = 4 := x1
        subst j1' x1'
        have hQ1 : (Nat.beq (s_aln ins) 0 && Nat.blt 0 4) = true := hQ
        rw [Bool.and_eq_true, Nat.beq_eq] at hQ1
        have hi : ins = .iaload := by
          rcases s_al_i hQ1.1 (by decide) with ⟨-, h⟩ | ⟨h, -⟩ | ⟨h, -⟩ | ⟨h, -⟩
          · exact h
          · cases h
          · cases h
          · cases h
        subst hi
        refine ⟨z_okt hIt, fun hX Ls sts hL hS hF => ?_⟩
        obtain ⟨x', ys, rfl, hgj, hS'⟩ := z_gS_c hS
        obtain ⟨y', zs, rfl, hgx, hS2⟩ := z_gS_c hS'
        have ey : y' = .ref E.2.2.1 := hgx
        subst ey
        obtain ⟨m, rfl, hm⟩ := hgj
        rw [hb]
        have j0' : 0 ≤ jc := j0
        have j4' : jc ≤ 4 := j4
        refine hld pc Ls zs w m (E.1 + jc).toNat (hd1 (by decide)) (by omega) (by omega) (z_one (hgo1 hg (by decide)) hX hL ⟨?_, hS2⟩ hF)
        show Value.int (xs (E.1 + jc).toNat) = .int (E.2.2.2.2.1 (E.1 + jc).toNat)
        rw [hxs]
      next => cases h2
    next => cases e
  · exfalso
    unfold z_do at e
    simp only at e
    split at e <;> first | (cases e; done) | omega
theorem z_all_ok {f : z_X → Option (List z_X)} : ∀ {Xs outs : List z_X}, z_all f Xs = some outs → ∀ X ∈ Xs, ∃ os, f X = some os ∧ ∀ Y ∈ os, Y ∈ outs
  | [], outs, h => fun X hX => by cases hX
  | X :: Xs, outs, h => by
    unfold z_all at h
    split at h
    next a ea =>
      split at h
      next c ec =>
        cases h
        intro Z hZ
        rcases List.mem_cons.mp hZ with rfl | hZ
        · exact ⟨a, ea, fun Y hY => List.mem_append.mpr (Or.inl hY)⟩
        · obtain ⟨os, h1, h2⟩ := z_all_ok ec Z hZ
          exact ⟨os, h1, fun Y hY => List.mem_append.mpr (Or.inr (h2 Y hY))⟩
      next => cases h
    next => cases h
theorem z_all_in {f : z_X → Option (List z_X)} : ∀ {Xs outs : List z_X}, z_all f Xs = some outs → ∀ Y ∈ outs, ∃ X ∈ Xs, ∃ os, f X = some os ∧ Y ∈ os
  | [], outs, h => fun Y hY => by
    cases h
    cases hY
  | X :: Xs, outs, h => by
    unfold z_all at h
    split at h
    next a ea =>
      split at h
      next c ec =>
        cases h
        intro Y hY
        rcases List.mem_append.mp hY with hY | hY
        · exact ⟨X, List.mem_cons_self, a, ea, hY⟩
        · obtain ⟨Z, hZ, os, h1, h2⟩ := z_all_in ec Y hY
          exact ⟨Z, List.mem_cons_of_mem _ hZ, os, h1, h2⟩
      next => cases h
    next => cases h
theorem z_run_ok (hP : z_cl N b xs P) (hE : z_ok N b xs E) (hfull : ∀ r ∈ full, s_okI code 13 r = true) {stops : List Nat} : ∀ (n : Nat) (X : z_X) (outs : List z_X), z_run full stops n X = some outs → (∀ q ∈ X.1, s_okI code 13 q = true) →
    (∀ Y ∈ outs, ∀ q ∈ Y.1, s_okI code 13 q = true) ∧ ((∀ Y ∈ outs, z_P E P w (s_pc Y.1) Y.2.1 Y.2.2.1 Y.2.2.2) → z_P E P w (s_pc X.1) X.2.1 X.2.2.1 X.2.2.2) := by
  intro n
  induction n with
  | zero => intro X outs e; cases e
  | succ n ih =>
    intro X outs e hX
    obtain ⟨code9, L, st, F⟩ := X
    cases code9 with
    | nil => cases (show (none : Option (List z_X)) = some outs from e)
    | cons r t =>
      unfold z_run at e
      simp only at e
      have hr := hX r List.mem_cons_self
      have ht : ∀ q ∈ t, s_okI code 13 q = true := fun q hq => hX q (List.mem_cons_of_mem _ hq)
      have here : ∀ Y ∈ [((r :: t, L, st, F) : z_X)], ∀ q ∈ Y.1, s_okI code 13 q = true := fun Y hY => by
        rw [List.mem_singleton] at hY
        subst hY
        exact hX
      cases es : y_isn r.1 stops
      · rw [es, cond_false] at e
        split at e
        next =>
          cases e
          exact ⟨here, fun h => h _ List.mem_cons_self⟩
        next Xs eX =>
          obtain ⟨d1, d2⟩ := z_do_ok (w := w) hP hE hfull hr ht eX
          refine ⟨fun Y hY => ?_, fun h => d2 (fun Z hZ => ?_)⟩
          · obtain ⟨Z, hZ, os, h1, h2⟩ := z_all_in e Y hY
            exact (ih Z os h1 (d1 Z hZ)).1 Y h2
          · obtain ⟨os, h1, h2⟩ := z_all_ok e Z hZ
            exact (ih Z os h1 (d1 Z hZ)).2 (fun Y hY => h Y (h2 Y hY))
      · rw [es, cond_true] at e
        cases e
        exact ⟨here, fun h => h _ List.mem_cons_self⟩
end Z2
