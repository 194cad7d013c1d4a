-- the law's cases slot and uneven
def s_KS (r : Int) : s_Call := fun j as M => bif Nat.beq j 162 then s_sx (s_K2 29) r as M else bif Nat.beq j 271 then s_sm (s_K2 29) r as M else s_K2 30 j as M
def s_KU (r : Int) : s_Call := fun j as M => bif Nat.beq j 163 then s_ux (s_K2 29) r as M else bif Nat.beq j 272 then s_um (s_K2 29) r as M else s_K2 30 j as M
theorem s_CT_CS {xs : Nat → Int} {j : Nat} {as : List s_V} {M : s_M} {outs : List (Option s_V × s_M)} (h : s_CT xs 30 j as M outs) {q0 : s_MI} (h0 : s_mi[j]? = some q0) (h1 : q0.2.2.2.1 = 0) (h2 : q0.2.2.2.2.1 = 0) :
    (∀ out ∈ outs, M.1.length ≤ out.2.1.length ∧ M.2.2.2.length ≤ out.2.2.2.2.length) ∧
    ∀ σ ρ b, s_ok xs σ M → ∀ q, s_mi[j]? = some q → ∀ post : Option Value → g_H → Prop, (∀ out ∈ outs, ∀ (σ' : Nat → Int) (ρ' : Nat → Nat), (∀ i, i < M.1.length → σ' i = σ i) → (∀ i, i < M.2.2.2.length → ρ' i = ρ i) → s_ok xs σ' out.2 → post (out.1.map (s_cv σ' ρ' b)) (s_ch σ' ρ' b 0 out.2.2.2.2)) → g_run 30 j (as.map (s_cv σ ρ b)) (s_ch σ ρ b 0 M.2.2.2) q.2.2.2.1 q.2.2.2.2.1 post := by
  refine ⟨h.1, fun σ ρ b hok q hq post hp => ?_⟩
  rw [h0] at hq
  cases hq
  rw [h1, h2]
  exact h.2 σ ρ b hok post hp
theorem s_KS_ok {xs : Nat → Int} (hx : s_x32 xs) {r : Int} (hr : sl_r xs r) : s_CS xs s_mi (s_KS r) (g_run 30) := by
  intro j as M outs h
  unfold s_KS at h
  cases e1 : Nat.beq j 162
  · rw [e1, cond_false] at h
    cases e2 : Nat.beq j 271
    · rw [e2, cond_false] at h
      exact s_K2_ok xs 30 j as M outs h
    · rw [e2, cond_true] at h
      rw [Nat.beq_eq] at e2
      subst e2
      exact s_CT_CS (s_sm_ok (d := 28) (s_K2_ok xs 29) hx hr h) (q0 := (9, 1, false, 0, 0, 12)) (by decide +kernel) rfl rfl
  · rw [e1, cond_true] at h
    rw [Nat.beq_eq] at e1
    subst e1
    exact s_CT_CS (s_sx_ok (d := 28) (s_K2_ok xs 29) hx hr h) (q0 := (9, 1, false, 0, 0, 11)) (by decide +kernel) rfl rfl
theorem s_KU_ok {xs : Nat → Int} (hx : s_x32 xs) {r : Int} (hr : un_r xs r) : s_CS xs s_mi (s_KU r) (g_run 30) := by
  intro j as M outs h
  unfold s_KU at h
  cases e1 : Nat.beq j 163
  · rw [e1, cond_false] at h
    cases e2 : Nat.beq j 272
    · rw [e2, cond_false] at h
      exact s_K2_ok xs 30 j as M outs h
    · rw [e2, cond_true] at h
      rw [Nat.beq_eq] at e2
      subst e2
      exact s_CT_CS (s_um_ok (d := 28) (s_K2_ok xs 29) hx hr h) (q0 := (9, 1, false, 0, 0, 12)) (by decide +kernel) rfl rfl
  · rw [e1, cond_true] at h
    rw [Nat.beq_eq] at e1
    subst e1
    exact s_CT_CS (s_ux_ok (d := 28) (s_K2_ok xs 29) hx hr h) (q0 := (9, 1, false, 0, 0, 11)) (by decide +kernel) rfl rfl
/-- the law's table, its four calls of slot and uneven no stops any more -/
def s_fix (r : s_I) : s_I := bif Nat.beq r.1 1274 then (1274, 3, 34, 2, 162, 4, 0, r.2.2.2.2.2.2.2) else bif Nat.beq r.1 1302 then (1302, 3, 34, 2, 271, 4, 0, r.2.2.2.2.2.2.2) else bif Nat.beq r.1 1323 then (1323, 3, 34, 2, 163, 2, 0, r.2.2.2.2.2.2.2) else bif Nat.beq r.1 1339 then (1339, 3, 34, 2, 272, 2, 0, r.2.2.2.2.2.2.2) else r
def s_cl2 : List s_I := s_cl.map s_fix
set_option maxRecDepth 100000 in
theorem s_fix_ok : (s_cl.filter (fun r => Nat.beq r.1 1274 || (Nat.beq r.1 1302 || (Nat.beq r.1 1323 || Nat.beq r.1 1339)))).all (fun r => s_okI code 13 (s_fix r)) = true := by decide +kernel
theorem s_cl2_ok : ∀ r ∈ s_cl2, s_okI code 13 r = true := by
  intro r hr
  obtain ⟨q, hq, rfl⟩ := List.mem_map.mp hr
  cases e : (Nat.beq q.1 1274 || (Nat.beq q.1 1302 || (Nat.beq q.1 1323 || Nat.beq q.1 1339)))
  · have e0 : s_fix q = q := by
      simp only [Bool.or_eq_false_iff] at e
      unfold s_fix
      rw [e.1, e.2.1, e.2.2.1, e.2.2.2]
      rfl
    rw [e0]
    exact s_cl_ok q hq
  · exact List.all_eq_true.mp s_fix_ok q (List.mem_filter.mpr ⟨hq, e⟩)
def s_lawK (K : s_Call) (X : s_X) : Option (List s_X) := s_loop K s_cl2 s_ft s_mi 6 13 8 false 600002 7302232 s_F X
def s_okK (K : s_Call) (X : s_X) : Bool := match s_lawK K X with
  | some outs => outs.all s_good
  | none => false
def s_okU (lo n : Nat) : Bool := (List.range n).all (fun i => s_okK (s_KU (((lo + i : Nat) : Int) - 1)) (s_lit 31 31))
set_option maxRecDepth 100000 in
theorem s_slot_n : s_okK (s_KS (-1)) (s_lit 30 30) = true := by decide +kernel
set_option maxRecDepth 100000 in
theorem s_slot_0 : s_okK (s_KS 0) (s_lit 30 30) = true := by decide +kernel
set_option maxRecDepth 100000 in
theorem s_slot_1 : s_okK (s_KS 1) (s_lit 30 30) = true := by decide +kernel
set_option maxRecDepth 100000 in
theorem s_slot_2 : s_okK (s_KS 2) (s_lit 30 30) = true := by decide +kernel
set_option maxRecDepth 100000 in
theorem s_un_0 : s_okU 0 1 = true := by decide +kernel
set_option maxRecDepth 100000 in
theorem s_un_1 : s_okU 1 1 = true := by decide +kernel
