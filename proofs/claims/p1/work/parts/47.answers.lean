-- slot and uneven as answers of calls
def s_stp (K : s_Call) (j : Nat) (ps : List Nat) (pc : Nat) (L : s_L) (M : s_M) : Option (List s_X) := match s_mi[j]? with
  | some q => match s_jump (t_stop ps (s_codes.getD j [])) pc with
    | some c => s_loop K (t_stop ps (s_codes.getD j [])) s_ft s_mi 0 q.2.2.2.2.2 q.1 q.2.2.1 q.2.2.2.1 q.2.2.2.2.1 s_F (c, L, [], 0, 0, M)
    | none => none
  | none => none
def s_isat (pc : Nat) (L : s_L) (Y : s_X) : Bool := Nat.beq (s_pc Y.1) pc && (decide (Y.2.1 = L) && (Y.2.2.1.isEmpty && (Nat.beq Y.2.2.2.1 0 && Nat.beq Y.2.2.2.2.1 0)))
def s_stq (K : s_Call) (j : Nat) (ps : List Nat) (pc pc2 : Nat) (L : s_L) (M : s_M) : Option (List s_M) := match s_stp K j ps pc L M with
  | some ys => bif ys.all (s_isat pc2 L) then some (ys.map (fun Y => Y.2.2.2.2.2)) else none
  | none => none
def s_grow2 (M : s_M) (l1 h1 l2 h2 : Int) : Option (Nat × Nat × s_M) := match s_grow M l1 h1 with
  | some (n1, M1) => match s_grow M1 l2 h2 with
    | some (n2, M2) => some (n1, n2, M2)
    | none => none
  | none => none
def s_ans (r : Int) (Ms : List s_M) : List (Option s_V × s_M) := Ms.map (fun N => (some (0, r), N))
def s_ac (t : s_V) (rest want : List s_V) (M : s_M) : Bool := decide (rest = want) && (Nat.beq t.1 5 && (Nat.blt t.2.toNat M.2.2.2.length && Nat.ble 5 M.1.length))
def s_a4 : List s_V := [(2, 1), (2, 2), (2, 3), (2, 4)]
def s_a2 : List s_V := [(2, 1), (2, 2)]
def s_sx (K : s_Call) (r : Int) (as : List s_V) (M : s_M) : Option (List (Option s_V × s_M)) := match as with
  | t :: rest => bif s_ac t rest s_a4 M then (bif decide (r = -1) then some (s_ans (-1) [M]) else match s_grow2 M (-1000000) 1000000 1 1000000 with
    | some (n1, n2, M2) => match s_stq K 162 [108] 90 108 [(7, (3, (n2 : Int))), (5, (3, (n1 : Int))), (0, t), (1, (2, 1)), (2, (2, 2)), (3, (2, 3)), (4, (2, 4))] M2 with
      | some Ms => some (s_ans r Ms)
      | none => none
    | none => none) else none
  | _ => none
def s_sm2 (K : s_Call) (r : Int) (t : s_V) (M : s_M) : Option (List (Option s_V × s_M)) := bif decide (r = -1) then some (s_ans (-1) [M]) else match s_grow2 M (-1000000) 1000000 1 1000000 with
    | some (n1, n2, M2) => match s_stq K 271 [118] 105 118 [(7, (3, (n2 : Int))), (5, (3, (n1 : Int))), (0, t), (1, (2, 1)), (2, (2, 2)), (3, (2, 3)), (4, (2, 4))] M2 with
      | some Ms => some (s_ans r Ms)
      | none => none
    | none => none
def s_sm (K : s_Call) (r : Int) (as : List s_V) (M : s_M) : Option (List (Option s_V × s_M)) := match as with
  | t :: rest => bif s_ac t rest s_a4 M then (match s_stq K 271 [5] 0 5 [(0, t), (1, (2, 1)), (2, (2, 2)), (3, (2, 3)), (4, (2, 4))] M with
    | some Ms => s_all (s_sm2 K r t) Ms
    | none => none) else none
  | _ => none
def s_ux (K : s_Call) (r : Int) (as : List s_V) (M : s_M) : Option (List (Option s_V × s_M)) := match as with
  | t :: rest => bif s_ac t rest s_a2 M then (bif decide (r = -1) then some (s_ans (-1) [M]) else match s_grow2 M s_lo64 s_hi64 s_lo64 s_hi64 with
    | some (n1, n2, M2) => match s_stq K 163 [151] 127 151 [(4, (0, 100)), (3, (0, r)), (7, (3, (n1 : Int))), (5, (3, (n2 : Int))), (0, t), (1, (2, 1)), (2, (2, 2))] M2 with
      | some Ms => some (s_ans r Ms)
      | none => none
    | none => none) else none
  | _ => none
def s_um2 (K : s_Call) (r : Int) (t : s_V) (M : s_M) : Option (List (Option s_V × s_M)) := bif decide (r = -1) then some (s_ans (-1) [M]) else match s_grow2 M s_lo64 s_hi64 s_lo64 s_hi64 with
    | some (n1, n2, M2) => match s_stq K 272 [140] 119 140 [(6, (0, 100)), (7, (3, (n1 : Int))), (4, (3, (n2 : Int))), (3, (0, r)), (0, t), (1, (2, 1)), (2, (2, 2))] M2, s_stq K 272 [140] 119 140 [(6, (0, 100)), (4, (3, (n2 : Int))), (3, (0, r)), (7, (3, (n1 : Int))), (0, t), (1, (2, 1)), (2, (2, 2))] M2 with
      | some Ms, some Ns => some (s_ans r (Ms ++ Ns))
      | _, _ => none
    | none => none
def s_um (K : s_Call) (r : Int) (as : List s_V) (M : s_M) : Option (List (Option s_V × s_M)) := match as with
  | t :: rest => bif s_ac t rest s_a2 M then (match s_stq K 272 [5] 0 5 [(0, t), (1, (2, 1)), (2, (2, 2))] M with
    | some Ms => s_all (s_um2 K r t) Ms
    | none => none) else none
  | _ => none
section T47
variable {xs : Nat → Int} {d : Nat} {K : s_Call}
theorem s_stp_ok (hK : s_CS xs s_mi K (g_run d)) {j : Nat} {q : s_MI} (hq : s_mi[j]? = some q) {ps : List Nat} {pc : Nat} {L : s_L} {M : s_M} {outs : List s_X} (h : s_stp K j ps pc L M = some outs) :
    (∀ Y ∈ outs, M.1.length ≤ Y.2.2.2.2.2.1.length ∧ M.2.2.2.length ≤ Y.2.2.2.2.2.2.2.2.length ∧ ∀ r ∈ Y.1, s_okI (g_by j) q.2.2.2.2.2 r = true) ∧
      ∀ P : g_S → Prop, (∀ S, g_pre (g_run d) q.2.2.2.2.2 q.1 q.2.2.1 q.2.2.2.1 q.2.2.2.2.1 (g_by j) P S → P S) → ∀ (σ : Nat → Int) (ρ : Nat → Nat) (b : Nat), s_ok xs σ M →
        (∀ Y ∈ outs, ∀ (σ' : Nat → Int) (ρ' : Nat → Nat), (∀ i, i < M.1.length → σ' i = σ i) → (∀ i, i < M.2.2.2.length → ρ' i = ρ i) → s_ok xs σ' Y.2.2.2.2.2 → P (s_cX σ' ρ' b Y)) → P (pc, s_cL σ ρ b L, [], 0, 0, s_ch σ ρ b 0 M.2.2.2) := by
  unfold s_stp at h
  rw [hq] at h
  simp only at h
  split at h
  next c e =>
    obtain ⟨c1, c2⟩ := s_jump_mem e
    have hfull : ∀ r ∈ t_stop ps (s_codes.getD j []), s_okI (g_by j) q.2.2.2.2.2 r = true := t_stop_ok (s_codes_ok j q hq).2
    refine ⟨(s_loop_ok (P := fun _ => True) (xs := xs) (b := 0) (CALL := g_run d) (cc := g_by j) (fun _ _ => trivial) (fun h => absurd h (Nat.lt_irrefl 0)) s_ft_ok s_df_ok s_mi_ok hK hfull s_F _ outs h (fun r hr => hfull r (c2 r hr))).1, fun P hcl σ ρ b hok hY => ?_⟩
    have key := (s_loop_ok (P := P) (xs := xs) (b := b) hcl (fun h => absurd h (Nat.lt_irrefl 0)) s_ft_ok s_df_ok s_mi_ok hK hfull s_F _ outs h (fun r hr => hfull r (c2 r hr))).2 σ ρ hok hY
    have e4 : s_cX σ ρ b (c, L, [], 0, 0, M) = (pc, s_cL σ ρ b L, [], 0, 0, s_ch σ ρ b 0 M.2.2.2) := by
      unfold s_cX
      dsimp only
      rw [c1]
      rfl
    rw [e4] at key
    exact key
  next => cases h
theorem s_isat_eq {pc : Nat} {L : s_L} {Y : s_X} (h : s_isat pc L Y = true) (σ : Nat → Int) (ρ : Nat → Nat) (b : Nat) : s_cX σ ρ b Y = (pc, s_cL σ ρ b L, [], 0, 0, s_ch σ ρ b 0 Y.2.2.2.2.2.2.2.2) := by
  obtain ⟨code, L', st, cn, sn, M⟩ := Y
  simp only [s_isat, Bool.and_eq_true, Nat.beq_eq, decide_eq_true_eq, List.isEmpty_iff] at h
  obtain ⟨h1, h2, h3, h4, h5⟩ := h
  subst h1 h2 h3 h4 h5
  rfl
theorem s_stq_ok (hK : s_CS xs s_mi K (g_run d)) {j : Nat} {q : s_MI} (hq : s_mi[j]? = some q) {ps : List Nat} {pc pc2 : Nat} {L : s_L} {M : s_M} {Ms : List s_M} (h : s_stq K j ps pc pc2 L M = some Ms) :
    (∀ N ∈ Ms, M.1.length ≤ N.1.length ∧ M.2.2.2.length ≤ N.2.2.2.length) ∧
      ∀ P : g_S → Prop, (∀ S, g_pre (g_run d) q.2.2.2.2.2 q.1 q.2.2.1 q.2.2.2.1 q.2.2.2.2.1 (g_by j) P S → P S) → ∀ (σ : Nat → Int) (ρ : Nat → Nat) (b : Nat), s_ok xs σ M →
        (∀ N ∈ Ms, ∀ (σ' : Nat → Int) (ρ' : Nat → Nat), (∀ i, i < M.1.length → σ' i = σ i) → (∀ i, i < M.2.2.2.length → ρ' i = ρ i) → s_ok xs σ' N → P (pc2, s_cL σ' ρ' b L, [], 0, 0, s_ch σ' ρ' b 0 N.2.2.2)) → P (pc, s_cL σ ρ b L, [], 0, 0, s_ch σ ρ b 0 M.2.2.2) := by
  unfold s_stq at h
  split at h
  next ys e =>
    obtain ⟨h1, h2⟩ := s_bif h
    cases h2
    obtain ⟨k1, k2⟩ := s_stp_ok hK hq e
    refine ⟨fun N hN => ?_, fun P hcl σ ρ b hok hp => k2 P hcl σ ρ b hok (fun Y hY σ' ρ' a1 a2 a3 => ?_)⟩
    · obtain ⟨Y, hY, rfl⟩ := List.mem_map.mp hN
      exact ⟨(k1 Y hY).1, (k1 Y hY).2.1⟩
    · rw [s_isat_eq (List.all_eq_true.mp h1 Y hY)]
      exact hp _ (List.mem_map.mpr ⟨Y, hY, rfl⟩) σ' ρ' a1 a2 a3
  next => cases h
theorem s_grow2_ok {σ : Nat → Int} {M M' : s_M} {n1 n2 : Nat} {l1 h1 l2 h2 z1 z2 : Int} (h : s_grow2 M l1 h1 l2 h2 = some (n1, n2, M')) (hok : s_ok xs σ M) (hz1 : l1 ≤ z1 ∧ z1 ≤ h1) (hz2 : l2 ≤ z2 ∧ z2 ≤ h2) :
    ∃ σ' : Nat → Int, (∀ i, i < M.1.length → σ' i = σ i) ∧ s_ok xs σ' M' ∧ σ' n1 = z1 ∧ σ' n2 = z2 ∧ ∀ ρ b, s_ch σ' ρ b 0 M'.2.2.2 = s_ch σ ρ b 0 M.2.2.2 := by
  unfold s_grow2 at h
  split at h
  next m1 M1 e1 =>
    split at h
    next m2 M2 e2 =>
      cases h
      obtain ⟨σ1, a1, a2, a3, a4⟩ := s_grow_ok e1 hok hz1
      obtain ⟨σ2, b1, b2, b3, b4⟩ := s_grow_ok e2 a2 hz2
      obtain ⟨l1, l2, l3⟩ := s_grow_len e1
      obtain ⟨l4, l5, l6⟩ := s_grow_len e2
      refine ⟨σ2, fun i hi => by rw [b1 i (by omega), a1 i hi], b2, by rw [b1 _ (by omega), a3], b3, fun ρ b => ?_⟩
      rw [l6, b4, l3, a4]
    next => cases h
  next => cases h
theorem s_grow2_len {M M' : s_M} {n1 n2 : Nat} {l1 h1 l2 h2 : Int} (h : s_grow2 M l1 h1 l2 h2 = some (n1, n2, M')) : M.1.length ≤ n1 ∧ n1 < M'.1.length ∧ n2 < M'.1.length ∧ M.1.length ≤ M'.1.length ∧ M'.2.2.2.length = M.2.2.2.length ∧ 5 ≤ M.1.length := by
  unfold s_grow2 at h
  split at h
  next m1 M1 e1 =>
    split at h
    next m2 M2 e2 =>
      cases h
      obtain ⟨l1, l2, l3⟩ := s_grow_len e1
      obtain ⟨l4, l5, l6⟩ := s_grow_len e2
      have h5 : 5 ≤ M.1.length := by
        unfold s_grow at e1
        obtain ⟨h9, -⟩ := s_bif e1
        rw [Bool.and_eq_true] at h9
        exact Nat.le_of_ble_eq_true h9.1
      exact ⟨by omega, by omega, by omega, by omega, by rw [l6, l3], h5⟩
    next => cases h
  next => cases h
theorem s_ac_eq {t : s_V} {rest want : List s_V} {M : s_M} (h : s_ac t rest want M = true) : rest = want ∧ (∃ n, t = (5, n)) ∧ t.2.toNat < M.2.2.2.length ∧ 5 ≤ M.1.length := by
  simp only [s_ac, Bool.and_eq_true, decide_eq_true_eq, Nat.beq_eq, Nat.blt_eq] at h
  obtain ⟨h1, h2, h3, h4⟩ := h
  obtain ⟨t1, t2⟩ := t
  have h2' : t1 = 5 := h2
  subst h2'
  exact ⟨h1, ⟨t2, rfl⟩, h3, Nat.le_of_ble_eq_true h4⟩
theorem s_ans_in {r : Int} {Ms : List s_M} {out : Option s_V × s_M} : out ∈ s_ans r Ms ↔ ∃ N ∈ Ms, out = (some (0, r), N) := by
  unfold s_ans
  rw [List.mem_map]
  exact ⟨fun ⟨N, h1, h2⟩ => ⟨N, h1, h2.symm⟩, fun ⟨N, h1, h2⟩ => ⟨N, h1, h2.symm⟩⟩
/-- what a call owes -/
def s_CT (xs : Nat → Int) (d j : Nat) (as : List s_V) (M : s_M) (outs : List (Option s_V × s_M)) : Prop :=
  (∀ out ∈ outs, M.1.length ≤ out.2.1.length ∧ M.2.2.2.length ≤ out.2.2.2.2.length) ∧ ∀ σ ρ b, s_ok xs σ M → ∀ post : Option Value → g_H → Prop,
    (∀ out ∈ outs, ∀ (σ' : Nat → Int) (ρ' : Nat → Nat), (∀ i, i < M.1.length → σ' i = σ i) → (∀ i, i < M.2.2.2.length → ρ' i = ρ i) → s_ok xs σ' out.2 → post (out.1.map (s_cv σ' ρ' b)) (s_ch σ' ρ' b 0 out.2.2.2.2)) → g_run d j (as.map (s_cv σ ρ b)) (s_ch σ ρ b 0 M.2.2.2) 0 0 post
def sl_r (xs : Nat → Int) (r : Int) : Prop := (sl_in (xs 1) (xs 2) (xs 3) (xs 4) → sl_sg (sl_up (xs 1) (xs 2) (xs 3) (xs 4)) (sl_dn (xs 1) (xs 2) (xs 3) (xs 4)) = r ∧ r ≠ -1) ∧ (¬ sl_in (xs 1) (xs 2) (xs 3) (xs 4) → r = -1)
def un_r (xs : Nat → Int) (r : Int) : Prop := (un_in (xs 1) (xs 2) → un_best (xs 1) (xs 2) 99 = r ∧ r ≠ -1) ∧ (¬ un_in (xs 1) (xs 2) → r = -1)
def s_x32 (xs : Nat → Int) : Prop := ∀ i, (Int32.ofInt (xs i)).toInt = xs i
theorem s_sx_ok (hK : s_CS xs s_mi K (g_run (d + 1))) (hx : s_x32 xs) {r : Int} (hr : sl_r xs r) {as : List s_V} {M : s_M} {outs : List (Option s_V × s_M)} (h : s_sx K r as M = some outs) : s_CT xs (d + 1 + 1) 162 as M outs := by
  unfold s_sx at h
  split at h
  next t rest =>
    replace h := s_bif h
    obtain ⟨h1, h⟩ := h
    obtain ⟨rfl, ⟨tn, rfl⟩, ht, h5⟩ := s_ac_eq h1
    have hq : s_mi[162]? = some (9, 1, false, 0, 0, 11) := by decide +kernel
    have hfull := h_full hq (t := s_c_162) rfl
    have ea : ∀ (σ : Nat → Int) (ρ : Nat → Nat) (b : Nat), s_ok xs σ M → ((5, tn) :: s_a4).map (s_cv σ ρ b) = [.ref (ρ tn.toNat), .int (Int32.ofInt (xs 1)), .int (Int32.ofInt (xs 2)), .int (Int32.ofInt (xs 3)), .int (Int32.ofInt (xs 4))] := by
      intro σ ρ b hok
      show [Value.ref (ρ tn.toNat), .int (Int32.ofInt (σ 1)), .int (Int32.ofInt (σ 2)), .int (Int32.ofInt (σ 3)), .int (Int32.ofInt (σ 4))] = _
      rw [hok.2.2.2 1 (by decide), hok.2.2.2 2 (by decide), hok.2.2.2 3 (by decide), hok.2.2.2 4 (by decide)]
    cases er : decide (r = -1)
    · rw [er, cond_false] at h
      have er := of_decide_eq_false er
      split at h
      next n1 n2 M2 g =>
        split at h
        next Ms e1 =>
          cases h
          obtain ⟨l1, l2, l3, l4, l5, -⟩ := s_grow2_len g
          obtain ⟨k1, k2⟩ := s_stq_ok hK hq e1
          refine ⟨fun out ho => ?_, fun σ ρ b hok post hp => ?_⟩
          · obtain ⟨N, hN, rfl⟩ := s_ans_in.mp ho
            have := k1 N hN
            exact ⟨Nat.le_trans l4 this.1, by rw [← l5]; exact this.2⟩
          · rw [ea σ ρ b hok]
            refine h_meth hq (by show 5 ≤ 9; decide) ?_
            intro P hpost hcl
            refine sl_x hcl hfull (fun hin => ?_) (fun hn => ?_)
            · have hin' := hin
              rw [hx, hx, hx, hx] at hin'
              obtain ⟨u1, u2⟩ := sl_U_eq hin
              obtain ⟨v1, v2⟩ := sl_V_eq hin
              have v3 := sl_dn_pos hin
              have hr1 := (hr.1 hin').1
              obtain ⟨σ', a1, a2, a3, a4, a5⟩ := s_grow2_ok g hok (z1 := (sl_U (Int32.ofInt (xs 1)) (Int32.ofInt (xs 2)) (Int32.ofInt (xs 3)) (Int32.ofInt (xs 4))).toInt) (z2 := (sl_V (Int32.ofInt (xs 1)) (Int32.ofInt (xs 2)) (Int32.ofInt (xs 3)) (Int32.ofInt (xs 4))).toInt) (by omega) (by rw [v1] at v2 ⊢; omega)
              have key := k2 P hcl σ' ρ b a2 (fun N hN σ2 ρ2 b1 b2 b3 => ?_)
              · have eL : s_cL σ' ρ b [(7, (3, (n2 : Int))), (5, (3, (n1 : Int))), (0, (5, tn)), (1, (2, 1)), (2, (2, 2)), (3, (2, 3)), (4, (2, 4))] = [(7, .long (sl_V (Int32.ofInt (xs 1)) (Int32.ofInt (xs 2)) (Int32.ofInt (xs 3)) (Int32.ofInt (xs 4)))), (5, .long (sl_U (Int32.ofInt (xs 1)) (Int32.ofInt (xs 2)) (Int32.ofInt (xs 3)) (Int32.ofInt (xs 4)))), (0, .ref (ρ tn.toNat)), (1, .int (Int32.ofInt (xs 1))), (2, .int (Int32.ofInt (xs 2))), (3, .int (Int32.ofInt (xs 3))), (4, .int (Int32.ofInt (xs 4)))] := by
                  show [(7, Value.long (Int64.ofInt (σ' (n2 : Int).toNat))), (5, .long (Int64.ofInt (σ' (n1 : Int).toNat))), (0, .ref (ρ tn.toNat)), (1, .int (Int32.ofInt (σ' 1))), (2, .int (Int32.ofInt (σ' 2))), (3, .int (Int32.ofInt (σ' 3))), (4, .int (Int32.ofInt (σ' 4)))] = _
                  rw [Int.toNat_natCast, Int.toNat_natCast, a3, a4, s_lz, s_lz, a2.2.2.2 1 (by decide), a2.2.2.2 2 (by decide), a2.2.2.2 3 (by decide), a2.2.2.2 4 (by decide)]
                rw [eL, a5] at key
                exact key
              · have e7 : Int64.ofInt (σ2 (n2 : Int).toNat) = sl_V (Int32.ofInt (xs 1)) (Int32.ofInt (xs 2)) (Int32.ofInt (xs 3)) (Int32.ofInt (xs 4)) := by
                  rw [Int.toNat_natCast, b1 n2 l3, a4, s_lz]
                have e5 : Int64.ofInt (σ2 (n1 : Int).toNat) = sl_U (Int32.ofInt (xs 1)) (Int32.ofInt (xs 2)) (Int32.ofInt (xs 3)) (Int32.ofInt (xs 4)) := by
                  rw [Int.toNat_natCast, b1 n1 l2, a3, s_lz]
                show P (108, (7, .long (Int64.ofInt (σ2 (n2 : Int).toNat))) :: (5, .long (Int64.ofInt (σ2 (n1 : Int).toNat))) :: s_cL σ2 ρ2 b [(0, (5, tn)), (1, (2, 1)), (2, (2, 2)), (3, (2, 3)), (4, (2, 4))], [], 0, 0, s_ch σ2 ρ2 b 0 N.2.2.2)
                rw [e7, e5]
                refine sl_xe hcl hfull u2 (by omega) ?_
                refine hpost _ (h_iret hq rfl hfull rfl (Nat.le_refl _) (Nat.le_refl _) ?_)
                rw [u1, v1, hx, hx, hx, hx, hr1]
                exact hp (some (0, r), N) (s_ans_in.mpr ⟨N, hN, rfl⟩) σ2 ρ2 (fun i hi => by rw [b1 i (by omega), a1 i hi]) (fun i hi => b2 i (by rw [l5]; exact hi)) b3
            · rw [hx, hx, hx, hx] at hn
              exact absurd (hr.2 hn) er
        next => cases h
      next => cases h
    · rw [er, cond_true] at h
      have er := of_decide_eq_true er
      cases h
      refine ⟨fun out ho => ?_, fun σ ρ b hok post hp => ?_⟩
      · obtain ⟨N, hN, rfl⟩ := s_ans_in.mp ho
        rw [List.mem_singleton] at hN
        subst hN
        exact ⟨Nat.le_refl _, Nat.le_refl _⟩
      · rw [ea σ ρ b hok]
        refine h_meth hq (by show 5 ≤ 9; decide) ?_
        intro P hpost hcl
        refine sl_x hcl hfull (fun hin => ?_) (fun hn => ?_)
        · rw [hx, hx, hx, hx] at hin
          exact absurd er (hr.1 hin).2
        · exact hpost _ (h_iret hq rfl hfull rfl (Nat.le_refl _) (Nat.le_refl _) (hp (some (0, -1), M) (s_ans_in.mpr ⟨M, List.mem_singleton.mpr rfl, rfl⟩) σ ρ (fun _ _ => rfl) (fun _ _ => rfl) hok))
  next => cases h
end T47
